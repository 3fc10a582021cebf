/-! what people have, as items of a sheet; the reference's, in general -/
def dlR (f : Nat → Int64) (nt : Int32) : Nat → Nat → Int32 → Bool
  | 0, _, _ => true
  | j + 1, k, d => if nt.toInt64 ≤ f k ∨ (0 ≤ f k ∧ d >>> ((f k).toInt32 &&& 31) &&& 1 = 1) then false else dlR f nt j (k + 1) (d ||| (if f k < 0 then 0 else (1 : Int32) <<< ((f k).toInt32 &&& 31)))
def dlD (x : Int32) : Int32 := if x = -4 then 0 else (1 : Int32) <<< (x &&& 31)
theorem c_X8_deal {l : Launch} {w : zE} (J : zJ w) {M : zM} {o np : Nat} {x ln i : Int32} (hk : zk o = 8) (ho : o = 138) (hnp : M.1 o 1 = nI np) (h8 : np ≤ 8) (hS : szOK (M.1 (o + 13))) : zCi l w yX8_deal cX8_deal 9 (some .int) 2 [.ref (w.2.2 o), .int x, .int ln, .int i] M (fun r M2 => (((x < 0 ∨ 3 < x) ∨ (ln < 0 ∨ 3 < ln)) ∧ r = -1 ∧ M2 = M) ∨ (¬ ((x < 0 ∨ 3 < x) ∨ (ln < 0 ∨ 3 < ln)) ∧ ∃ q, q < 4 ∧ x = nI q ∧ ((whyF (M.1 (o + 12) q) (M.1 (o + 13) q) ln i (nI np) < 0 ∧ r = whyF (M.1 (o + 12) q) (M.1 (o + 13) q) ln i (nI np) ∧ M2 = M) ∨ (¬ whyF (M.1 (o + 12) q) (M.1 (o + 13) q) ln i (nI np) < 0 ∧ ∃ a, i = nI a ∧ a + np ≤ 16 ∧ ((dlR (fun k => M.2 (o + 14) (16 * q + k)) (M.1 o 0) np a (dlD (M.1 (o + 3) 0)) = false ∧ r = -2 ∧ M2 = M) ∨ (dlR (fun k => M.2 (o + 14) (16 * q + k)) (M.1 o 0) np a (dlD (M.1 (o + 3) 0)) = true ∧ r = nI np ∧ M2 = za M (o + 3) (dealT (M.1 (o + 3)) (fun k => M.2 (o + 14) (16 * q + k)) a np))))))) := by
  obtain ⟨hz1, hz2, hz3, hz4, hz5, hz6, hz7, hz8, hz9, hz10, hz11, hz12, hz13, hz14, hz15⟩ := zn8 ho
  refine zCi_of J zm_X8_deal [some (.ref (w.2.2 o)), some (.int x), some (.int ln), some (.int i), none, none, none, none, none] (Nat.le_of_ble_eq_true rfl) rfl (fun g hg F X => ?_)
  subst hg
  have key2 : ∀ (q a : Nat) (y d : Int32), q < 4 → a + np ≤ 16 → (∀ lv, lv[0]? = some (some (.ref (w.2.2 o))) → ZW w g 9 208 lv [] (za M (o + 3) (dealT (M.1 (o + 3)) (fun k => M.2 (o + 14) (16 * q + k)) a np))) → ∀ (j k : Nat) (x7 : Option Value), k + j = np → ZW w g 9 153 [some (.ref (w.2.2 o)), some (.int (nI q)), some (.int ln), some (.int (nI a)), some (.int y), some (.int d), some (.int (nI k)), x7, none] [] (za M (o + 3) (dealT (M.1 (o + 3)) (fun k => M.2 (o + 14) (16 * q + k)) a k)) := by
    intro q a y d hq ha K j
    have e0 : ∀ f, (za M (o + 3) f).1 o 1 = nI np := fun f => by rw [za_off _ (by omega)]; exact hnp
    have e2 : ∀ f, (za M (o + 3) f).2 = M.2 := fun f => rfl
    induction j with
    | zero =>
      intro k x7 hkj
      obtain rfl : k = np := by omega
      refine z_iload F dX8_deal_153 rfl ?_
      refine z_aload_n F dX8_deal_155 rfl ?_
      refine zg_X8_people F (by with_reducible assumption) fl_X8_76 dX8_deal_156 ?_
      try simp only [e0]
      refine z_ic_ge (tgt := 208) F dX8_deal_159 (by decide) (fun h_159 => ?_) (fun h_159 => absurd h_159 (nlt (Int32.le_refl _)))
      exact K _ rfl
    | succ j ih =>
      intro k x7 hkj
      have ea : M.2 (o + 14) (16 * q + a + k) = M.2 (o + 14) (16 * q + (a + k)) := by rw [Nat.add_assoc]
      refine z_iload F dX8_deal_153 rfl ?_
      refine z_aload_n F dX8_deal_155 rfl ?_
      refine zg_X8_people F (by with_reducible assumption) fl_X8_76 dX8_deal_156 ?_
      try simp only [e0, e2, ea, lg_cmp_ge, lg_cmp_lt]
      refine z_ic_ge (tgt := 208) F dX8_deal_159 (by decide) (fun h_159 => absurd h_159 (nle (nI_lt (by omega) (by omega)))) (fun h_159 => ?_)
      refine z_aload_n F dX8_deal_162 rfl ?_
      refine zg_X8_items F (by with_reducible assumption) fl_X8_49 dX8_deal_163 (fun hk_163 => ?_)
      refine z_bipush (v := 16) F dX8_deal_166 (by decide) ?_
      refine z_iload_n F dX8_deal_168 rfl ?_
      refine z_imul F dX8_deal_169 ?_
      refine z_iload_n F dX8_deal_170 rfl ?_
      refine z_iadd F dX8_deal_171 ?_
      refine z_iload F dX8_deal_172 rfl ?_
      refine z_iadd F dX8_deal_174 ?_
      refine z_lald14n (q := (((16 * q) + a) + k)) F (by with_reducible assumption) (by first | with_reducible rfl | (simp only [n4, n2, n3, n5, n14, n16, na1, na2, na3, nI_add, nI_1, nI_pred]; done) | (simp only [n4, n2, n3, n5, n14, n16, na1, na2, na3, nI_add, nI_1, nI_pred, Nat.add_assoc, Nat.add_comm, Nat.add_left_comm]; done)) (by rw [hz14]; omega) dX8_deal_175 ?_
      try simp only [e0, e2, ea, lg_cmp_ge, lg_cmp_lt]
      refine z_lstore (lv' := [_, _, _, _, _, _, _, _, _]) F dX8_deal_176 (by decide) rfl rfl ?_
      refine z_aload_n F dX8_deal_178 rfl ?_
      refine zg_X8_now F (by with_reducible assumption) fl_X8_16 dX8_deal_179 (fun hk_179 => ?_)
      refine z_iconst (v := 5) F dX8_deal_182 (by decide) ?_
      refine z_iload F dX8_deal_183 rfl ?_
      refine z_iadd F dX8_deal_185 ?_
      refine z_lload F dX8_deal_186 rfl ?_
      refine z_lconst (v := 0) F dX8_deal_188 (by decide) ?_
      refine z_lcmp F dX8_deal_189 ?_
      refine z_if_ge (tgt := 198) F dX8_deal_190 (by decide) (fun h_190 => ?_) (fun h_190 => ?_)
      · try simp only [e0, e2, ea, lg_cmp_ge, lg_cmp_lt] at h_190
        refine z_lload F dX8_deal_198 rfl ?_
        refine z_l2i F dX8_deal_200 ?_
        refine z_iast10n (q := (5 + k)) F (by with_reducible assumption) (by first | with_reducible rfl | (simp only [n4, n2, n3, n5, n14, n16, na1, na2, na3, nI_add, nI_1, nI_pred]; done) | (simp only [n4, n2, n3, n5, n14, n16, na1, na2, na3, nI_add, nI_1, nI_pred, Nat.add_assoc, Nat.add_comm, Nat.add_left_comm]; done)) (by rw [hz3]; omega) dX8_deal_201 ?_
        refine z_iincc (c := 1) (lv' := [_, _, _, _, _, _, _, _, _]) F dX8_deal_202 rfl (by decide) (by decide) rfl rfl ?_
        refine z_goto (tgt := 153) F dX8_deal_205 (by decide) ?_
        rw [nI_1, zs_za, za_at, za_za, dealT_s (M.1 (o + 3)) (fun k => M.2 (o + 14) (16 * q + k)) a k (if_neg (Int64.not_lt.mpr h_190)).symm]
        exact ih (k + 1) _ (by omega)
      · try simp only [e0, e2, ea, lg_cmp_ge, lg_cmp_lt] at h_190
        refine z_bipush (v := (-4)) F dX8_deal_193 (by decide) ?_
        refine z_goto (tgt := 201) F dX8_deal_195 (by decide) ?_
        refine z_iast10n (q := (5 + k)) F (by with_reducible assumption) (by first | with_reducible rfl | (simp only [n4, n2, n3, n5, n14, n16, na1, na2, na3, nI_add, nI_1, nI_pred]; done) | (simp only [n4, n2, n3, n5, n14, n16, na1, na2, na3, nI_add, nI_1, nI_pred, Nat.add_assoc, Nat.add_comm, Nat.add_left_comm]; done)) (by rw [hz3]; omega) dX8_deal_201 ?_
        refine z_iincc (c := 1) (lv' := [_, _, _, _, _, _, _, _, _]) F dX8_deal_202 rfl (by decide) (by decide) rfl rfl ?_
        refine z_goto (tgt := 153) F dX8_deal_205 (by decide) ?_
        rw [nI_1, zs_za, za_at, za_za, dealT_s (M.1 (o + 3)) (fun k => M.2 (o + 14) (16 * q + k)) a k (if_pos h_190).symm]
        exact ih (k + 1) _ (by omega)
  have key1 : ∀ (q a : Nat) (y : Int32), q < 4 → a + np ≤ 16 → (dlR (fun k => M.2 (o + 14) (16 * q + k)) (M.1 o 0) np a (dlD (M.1 (o + 3) 0)) = false → ∀ lv, ZW w g 9 120 lv [] M) → (dlR (fun k => M.2 (o + 14) (16 * q + k)) (M.1 o 0) np a (dlD (M.1 (o + 3) 0)) = true → ∀ d z x7, ZW w g 9 150 [some (.ref (w.2.2 o)), some (.int (nI q)), some (.int ln), some (.int (nI a)), some (.int y), some (.int d), some (.int z), x7, none] [] M) → ∀ (j k : Nat) (d : Int32) (x7 : Option Value), k + j = np → dlR (fun k => M.2 (o + 14) (16 * q + k)) (M.1 o 0) j (a + k) d = dlR (fun k => M.2 (o + 14) (16 * q + k)) (M.1 o 0) np a (dlD (M.1 (o + 3) 0)) → ZW w g 9 65 [some (.ref (w.2.2 o)), some (.int (nI q)), some (.int ln), some (.int (nI a)), some (.int y), some (.int d), some (.int (nI k)), x7, none] [] M := by
    intro q a y hq ha Kf Kt j
    induction j with
    | zero =>
      intro k d x7 hkj hR
      obtain rfl : k = np := by omega
      refine z_iload F dX8_deal_65 rfl ?_
      refine z_aload_n F dX8_deal_67 rfl ?_
      refine zg_X8_people F (by with_reducible assumption) fl_X8_76 dX8_deal_68 ?_
      try simp only [hnp]
      refine z_ic_ge (tgt := 150) F dX8_deal_71 (by decide) (fun h_71 => ?_) (fun h_71 => absurd h_71 (nlt (Int32.le_refl _)))
      exact Kt hR.symm _ _ _
    | succ j ih =>
      intro k d x7 hkj hR
      have ea : M.2 (o + 14) (16 * q + a + k) = M.2 (o + 14) (16 * q + (a + k)) := by rw [Nat.add_assoc]
      rw [dlR] at hR
      refine z_iload F dX8_deal_65 rfl ?_
      refine z_aload_n F dX8_deal_67 rfl ?_
      refine zg_X8_people F (by with_reducible assumption) fl_X8_76 dX8_deal_68 ?_
      try simp only [hnp, ea, lg_cmp_ge, lg_cmp_lt]
      refine z_ic_ge (tgt := 150) F dX8_deal_71 (by decide) (fun h_71 => absurd h_71 (nle (nI_lt (by omega) (by omega)))) (fun h_71 => ?_)
      refine z_aload_n F dX8_deal_74 rfl ?_
      refine zg_X8_items F (by with_reducible assumption) fl_X8_49 dX8_deal_75 (fun hk_75 => ?_)
      refine z_bipush (v := 16) F dX8_deal_78 (by decide) ?_
      refine z_iload_n F dX8_deal_80 rfl ?_
      refine z_imul F dX8_deal_81 ?_
      refine z_iload_n F dX8_deal_82 rfl ?_
      refine z_iadd F dX8_deal_83 ?_
      refine z_iload F dX8_deal_84 rfl ?_
      refine z_iadd F dX8_deal_86 ?_
      refine z_lald14n (q := (((16 * q) + a) + k)) F (by with_reducible assumption) (by first | with_reducible rfl | (simp only [n4, n2, n3, n5, n14, n16, na1, na2, na3, nI_add, nI_1, nI_pred]; done) | (simp only [n4, n2, n3, n5, n14, n16, na1, na2, na3, nI_add, nI_1, nI_pred, Nat.add_assoc, Nat.add_comm, Nat.add_left_comm]; done)) (by rw [hz14]; omega) dX8_deal_87 ?_
      try simp only [hnp, ea, lg_cmp_ge, lg_cmp_lt]
      refine z_lstore (lv' := [_, _, _, _, _, _, _, _, _]) F dX8_deal_88 (by decide) rfl rfl ?_
      refine z_lload F dX8_deal_90 rfl ?_
      refine z_aload_n F dX8_deal_92 rfl ?_
      refine zg_X8_things F (by with_reducible assumption) fl_X8_69 dX8_deal_93 ?_
      try simp only [hnp, ea, lg_cmp_ge, lg_cmp_lt]
      refine z_i2l F dX8_deal_96 ?_
      refine z_lcmp F dX8_deal_97 ?_
      refine z_if_ge (tgt := 120) F dX8_deal_98 (by decide) (fun h_98 => ?_) (fun h_98 => ?_)
      · try simp only [hnp, ea, lg_cmp_ge, lg_cmp_lt] at h_98
        rw [if_pos (Or.inl h_98)] at hR
        exact Kf hR.symm _
      · try simp only [hnp, ea, lg_cmp_ge, lg_cmp_lt] at h_98
        refine z_lload F dX8_deal_101 rfl ?_
        refine z_lconst (v := 0) F dX8_deal_103 (by decide) ?_
        refine z_lcmp F dX8_deal_104 ?_
        refine z_if_lt (tgt := 123) F dX8_deal_105 (by decide) (fun h_105 => ?_) (fun h_105 => ?_)
        · try simp only [hnp, ea, lg_cmp_ge, lg_cmp_lt] at h_105
          refine z_iload F dX8_deal_123 rfl ?_
          refine z_lload F dX8_deal_125 rfl ?_
          refine z_lconst (v := 0) F dX8_deal_127 (by decide) ?_
          refine z_lcmp F dX8_deal_128 ?_
          refine z_if_ge (tgt := 136) F dX8_deal_129 (by decide) (fun h_129 => absurd h_129 (by simp only [lg_cmp_ge]; exact Int64.not_le.mpr h_105)) (fun h_129 => ?_)
          refine z_iconst (v := 0) F dX8_deal_132 (by decide) ?_
          refine z_goto (tgt := 141) F dX8_deal_133 (by decide) ?_
          refine z_ior F dX8_deal_141 ?_
          refine z_istore (lv' := [_, _, _, _, _, _, _, _, _]) F dX8_deal_142 (by decide) rfl rfl ?_
          refine z_iincc (c := 1) (lv' := [_, _, _, _, _, _, _, _, _]) F dX8_deal_144 rfl (by decide) (by decide) rfl rfl ?_
          refine z_goto (tgt := 65) F dX8_deal_147 (by decide) ?_
          rw [if_neg (fun z => z.elim (fun z => Int64.not_le.mpr h_98 z) (fun z => Int64.not_le.mpr h_105 z.1)), if_pos h_105] at hR
          rw [nI_1]
          exact ih (k + 1) _ _ (by omega) hR
        · try simp only [hnp, ea, lg_cmp_ge, lg_cmp_lt] at h_105
          refine z_iload F dX8_deal_108 rfl ?_
          refine z_lload F dX8_deal_110 rfl ?_
          refine z_l2i F dX8_deal_112 ?_
          refine z_ishr F dX8_deal_113 ?_
          refine z_iconst (v := 1) F dX8_deal_114 (by decide) ?_
          refine z_iand F dX8_deal_115 ?_
          refine z_iconst (v := 1) F dX8_deal_116 (by decide) ?_
          refine z_ic_ne (tgt := 123) F dX8_deal_117 (by decide) (fun h_117 => ?_) (fun h_117 => ?_)
          · try simp only [hnp, ea, lg_cmp_ge, lg_cmp_lt] at h_117
            refine z_iload F dX8_deal_123 rfl ?_
            refine z_lload F dX8_deal_125 rfl ?_
            refine z_lconst (v := 0) F dX8_deal_127 (by decide) ?_
            refine z_lcmp F dX8_deal_128 ?_
            refine z_if_ge (tgt := 136) F dX8_deal_129 (by decide) (fun h_129 => ?_) (fun h_129 => absurd h_129 (by simp only [lg_cmp_lt]; exact Int64.not_lt.mpr h_105))
            refine z_iconst (v := 1) F dX8_deal_136 (by decide) ?_
            refine z_lload F dX8_deal_137 rfl ?_
            refine z_l2i F dX8_deal_139 ?_
            refine z_ishl F dX8_deal_140 ?_
            refine z_ior F dX8_deal_141 ?_
            refine z_istore (lv' := [_, _, _, _, _, _, _, _, _]) F dX8_deal_142 (by decide) rfl rfl ?_
            refine z_iincc (c := 1) (lv' := [_, _, _, _, _, _, _, _, _]) F dX8_deal_144 rfl (by decide) (by decide) rfl rfl ?_
            refine z_goto (tgt := 65) F dX8_deal_147 (by decide) ?_
            rw [if_neg (fun z => z.elim (fun z => Int64.not_le.mpr h_98 z) (fun z => h_117 z.2)), if_neg (Int64.not_lt.mpr h_105)] at hR
            rw [nI_1]
            exact ih (k + 1) _ _ (by omega) hR
          · try simp only [hnp, ea, lg_cmp_ge, lg_cmp_lt] at h_117
            rw [if_pos (Or.inr ⟨h_105, h_117⟩)] at hR
            exact Kf hR.symm _
  refine z_iload_n F dX8_deal_0 rfl ?_
  refine z_callSi F (c_X8_isSheet J) zm_X8_isSheet zst_X8_isSheet ml_X8_227 rfl rfl (Nat.le_of_ble_eq_true rfl) dX8_deal_1 (by omega) (fun r_1 M_1 h_1 => ?_)
  obtain ⟨e_1, rfl⟩ := h_1
  replace e_1 := Eq.symm e_1
  subst e_1
  refine z_if_eq (tgt := 14) F dX8_deal_4 (by decide) (fun h_4 => ?_) (fun h_4 => ?_)
  · replace h_4 := bI_0.mp h_4
    try simp only [hnp] at h_4
    refine z_iconst (v := (-1)) F dX8_deal_14 (by decide) ?_
    refine z_iret F X dX8_deal_15 ?_
    exact Or.inl ⟨Or.inl (Classical.not_not.mp h_4), rfl, rfl⟩
  · replace h_4 := bI_1.mp h_4
    try simp only [hnp] at h_4
    refine z_iload_n F dX8_deal_7 rfl ?_
    refine z_callSi F (c_X8_isLane J) zm_X8_isLane zst_X8_isLane ml_X8_230 rfl rfl (Nat.le_of_ble_eq_true rfl) dX8_deal_8 (by omega) (fun r_8 M_8 h_8 => ?_)
    obtain ⟨e_8, rfl⟩ := h_8
    replace e_8 := Eq.symm e_8
    subst e_8
    refine z_if_ne (tgt := 16) F dX8_deal_11 (by decide) (fun h_11 => ?_) (fun h_11 => ?_)
    · replace h_11 := bI_1.mp h_11
      try simp only [hnp] at h_11
      obtain ⟨q, hq, rfl⟩ := s4_in h_4
      refine z_aload_n F dX8_deal_16 rfl ?_
      refine z_iload_n F dX8_deal_17 rfl ?_
      refine z_iload_n F dX8_deal_18 rfl ?_
      refine z_iload_n F dX8_deal_19 rfl ?_
      refine z_aload_n F dX8_deal_20 rfl ?_
      refine zg_X8_people F (by with_reducible assumption) fl_X8_76 dX8_deal_21 ?_
      try simp only [hnp]
      refine z_callVi F (c_X8_why J hk ho hq) zm_X8_why zv_X8_why ml_X8_235 (by with_reducible assumption) (by decide) rfl rfl rfl (Nat.le_of_ble_eq_true rfl) dX8_deal_24 (by omega) (fun r_24 M_24 h_24 => ?_)
      obtain ⟨e_24, rfl⟩ := h_24
      replace e_24 := Eq.symm e_24
      subst e_24
      refine z_istore (lv' := [_, _, _, _, _, _, _, _, _]) F dX8_deal_27 (by decide) rfl rfl ?_
      refine z_iload F dX8_deal_29 rfl ?_
      refine z_if_ge (tgt := 37) F dX8_deal_31 (by decide) (fun h_31 => ?_) (fun h_31 => ?_)
      · try simp only [hnp] at h_31
        have h31 := nlt h_31
        obtain ⟨L, hL, hB⟩ := hS q hq
        obtain ⟨a, rfl, haL⟩ := why_ok2 (by omega) hB hL h31
        refine z_aload_n F dX8_deal_37 rfl ?_
        refine zg_X8_now F (by with_reducible assumption) fl_X8_16 dX8_deal_38 (fun hk_38 => ?_)
        refine z_iconst (v := 0) F dX8_deal_41 (by decide) ?_
        refine z_iald10n (q := 0) F (by with_reducible assumption) (by decide) (by rw [hz3]; omega) dX8_deal_42 ?_
        try simp only [hnp]
        refine z_bipush (v := (-4)) F dX8_deal_43 (by decide) ?_
        refine z_ic_ne (tgt := 52) F dX8_deal_45 (by decide) (fun h_45 => ?_) (fun h_45 => ?_)
        · try simp only [hnp] at h_45
          refine z_iconst (v := 1) F dX8_deal_52 (by decide) ?_
          refine z_aload_n F dX8_deal_53 rfl ?_
          refine zg_X8_now F (by with_reducible assumption) fl_X8_16 dX8_deal_54 (fun hk_54 => ?_)
          refine z_iconst (v := 0) F dX8_deal_57 (by decide) ?_
          refine z_iald10n (q := 0) F (by with_reducible assumption) (by decide) (by rw [hz3]; omega) dX8_deal_58 ?_
          try simp only [hnp]
          refine z_ishl F dX8_deal_59 ?_
          refine z_istore (lv' := [_, _, _, _, _, _, _, _, _]) F dX8_deal_60 (by decide) rfl rfl ?_
          refine z_iconst (v := 0) F dX8_deal_62 (by decide) ?_
          refine z_istore (lv' := [_, _, _, _, _, _, _, _, _]) F dX8_deal_63 (by decide) rfl rfl ?_
          refine key1 q a _ hq (by omega) ?_ ?_ np 0 _ none (by omega) ?_
          · intro hR lv
            refine z_bipush (v := -2) F dX8_deal_120 (by decide) ?_
            refine z_iret F X dX8_deal_122 ?_
            exact Or.inr ⟨fun z => z.elim h_4 h_11, q, hq, rfl, Or.inr ⟨h31, a, rfl, by omega, Or.inl ⟨hR, rfl, rfl⟩⟩⟩
          · intro hR d z x7
            refine z_iconst (v := 0) F dX8_deal_150 (by decide) ?_
            refine z_istore (lv' := [_, _, _, _, _, _, _, _, _]) F dX8_deal_151 (by decide) rfl rfl ?_
            have k0 := key2 q a (whyF (M.1 (o + 12) q) (M.1 (o + 13) q) ln (nI a) (nI np)) d hq (by omega) ?_ np 0 x7 (by omega)
            · have e9 : dealT (M.1 (o + 3)) (fun k => M.2 (o + 14) (16 * q + k)) a 0 = M.1 (o + 3) := funext fun q => if_neg (by omega)
              rw [e9, za_self] at k0
              exact k0
            · intro lv hlv
              refine z_aload_n F dX8_deal_208 hlv ?_
              refine zg_X8_people F (by with_reducible assumption) fl_X8_76 dX8_deal_209 ?_
              rw [za_off _ (by omega), hnp]
              refine z_iret F X dX8_deal_212 ?_
              exact Or.inr ⟨fun z => z.elim h_4 h_11, q, hq, rfl, Or.inr ⟨h31, a, rfl, by omega, Or.inr ⟨hR, rfl, rfl⟩⟩⟩
          · unfold dlD
            first | (rw [if_pos h_45]; rfl) | (rw [if_neg h_45]; rfl)
        · try simp only [hnp] at h_45
          refine z_iconst (v := 0) F dX8_deal_48 (by decide) ?_
          refine z_goto (tgt := 60) F dX8_deal_49 (by decide) ?_
          refine z_istore (lv' := [_, _, _, _, _, _, _, _, _]) F dX8_deal_60 (by decide) rfl rfl ?_
          refine z_iconst (v := 0) F dX8_deal_62 (by decide) ?_
          refine z_istore (lv' := [_, _, _, _, _, _, _, _, _]) F dX8_deal_63 (by decide) rfl rfl ?_
          refine key1 q a _ hq (by omega) ?_ ?_ np 0 _ none (by omega) ?_
          · intro hR lv
            refine z_bipush (v := -2) F dX8_deal_120 (by decide) ?_
            refine z_iret F X dX8_deal_122 ?_
            exact Or.inr ⟨fun z => z.elim h_4 h_11, q, hq, rfl, Or.inr ⟨h31, a, rfl, by omega, Or.inl ⟨hR, rfl, rfl⟩⟩⟩
          · intro hR d z x7
            refine z_iconst (v := 0) F dX8_deal_150 (by decide) ?_
            refine z_istore (lv' := [_, _, _, _, _, _, _, _, _]) F dX8_deal_151 (by decide) rfl rfl ?_
            have k0 := key2 q a (whyF (M.1 (o + 12) q) (M.1 (o + 13) q) ln (nI a) (nI np)) d hq (by omega) ?_ np 0 x7 (by omega)
            · have e9 : dealT (M.1 (o + 3)) (fun k => M.2 (o + 14) (16 * q + k)) a 0 = M.1 (o + 3) := funext fun q => if_neg (by omega)
              rw [e9, za_self] at k0
              exact k0
            · intro lv hlv
              refine z_aload_n F dX8_deal_208 hlv ?_
              refine zg_X8_people F (by with_reducible assumption) fl_X8_76 dX8_deal_209 ?_
              rw [za_off _ (by omega), hnp]
              refine z_iret F X dX8_deal_212 ?_
              exact Or.inr ⟨fun z => z.elim h_4 h_11, q, hq, rfl, Or.inr ⟨h31, a, rfl, by omega, Or.inr ⟨hR, rfl, rfl⟩⟩⟩
          · unfold dlD
            first | (rw [if_pos h_45]; rfl) | (rw [if_neg h_45]; rfl)
      · try simp only [hnp] at h_31
        refine z_iload F dX8_deal_34 rfl ?_
        refine z_iret F X dX8_deal_36 ?_
        exact Or.inr ⟨fun z => z.elim h_4 h_11, q, hq, rfl, Or.inl ⟨h_31, rfl, rfl⟩⟩
    · replace h_11 := bI_0.mp h_11
      try simp only [hnp] at h_11
      refine z_iconst (v := (-1)) F dX8_deal_14 (by decide) ?_
      refine z_iret F X dX8_deal_15 ?_
      exact Or.inl ⟨Or.inr (Classical.not_not.mp h_11), rfl, rfl⟩
