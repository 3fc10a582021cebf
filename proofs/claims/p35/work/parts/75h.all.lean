section
/-! what people have, as items of a sheet; the reference's, in general -/
def dlR (f : Nat → Int64) (nt : Int32) : Nat → Nat → Int32 → Bool
  | 0, _, _ => true
  | j + 1, k, d => if nt.toInt64 ≤ f k ∨ (0 ≤ f k ∧ d >>> ((f k).toInt32 &&& 31) &&& 1 = 1) then false else dlR f nt j (k + 1) (d ||| (if f k < 0 then 0 else (1 : Int32) <<< ((f k).toInt32 &&& 31)))
def dlD (x : Int32) : Int32 := if x = -4 then 0 else (1 : Int32) <<< (x &&& 31)
theorem c_X8_deal {l : Launch} {w : zE} (J : zJ w) {M : zM} {o np : Nat} {x ln i : Int32} (hk : zk o = 8) (ho : o = 138) (hnp : M.1 o 1 = nI np) (h8 : np ≤ 8) (hS : szOK (M.1 (o + 13))) : zCi l w yX8_deal cX8_deal 9 (some .int) 2 [.ref (w.2.2 o), .int x, .int ln, .int i] M (fun r M2 => (((x < 0 ∨ 3 < x) ∨ (ln < 0 ∨ 3 < ln)) ∧ r = -1 ∧ M2 = M) ∨ (¬ ((x < 0 ∨ 3 < x) ∨ (ln < 0 ∨ 3 < ln)) ∧ ∃ q, q < 4 ∧ x = nI q ∧ ((whyF (M.1 (o + 12) q) (M.1 (o + 13) q) ln i (nI np) < 0 ∧ r = whyF (M.1 (o + 12) q) (M.1 (o + 13) q) ln i (nI np) ∧ M2 = M) ∨ (¬ whyF (M.1 (o + 12) q) (M.1 (o + 13) q) ln i (nI np) < 0 ∧ ∃ a, i = nI a ∧ a + np ≤ 16 ∧ ((dlR (fun k => M.2 (o + 14) (16 * q + k)) (M.1 o 0) np a (dlD (M.1 (o + 3) 0)) = false ∧ r = -2 ∧ M2 = M) ∨ (dlR (fun k => M.2 (o + 14) (16 * q + k)) (M.1 o 0) np a (dlD (M.1 (o + 3) 0)) = true ∧ r = nI np ∧ M2 = za M (o + 3) (dealT (M.1 (o + 3)) (fun k => M.2 (o + 14) (16 * q + k)) a np))))))) := by
  obtain ⟨hz1, hz2, hz3, hz4, hz5, hz6, hz7, hz8, hz9, hz10, hz11, hz12, hz13, hz14, hz15⟩ := zn8 ho
  refine zCi_of J zm_X8_deal [some (.ref (w.2.2 o)), some (.int x), some (.int ln), some (.int i), none, none, none, none, none] (Nat.le_of_ble_eq_true rfl) rfl (fun g hg F X => ?_)
  subst hg
  have key2 : ∀ (q a : Nat) (y d : Int32), q < 4 → a + np ≤ 16 → (∀ lv, lv[0]? = some (some (.ref (w.2.2 o))) → ZW w g 9 208 lv [] (za M (o + 3) (dealT (M.1 (o + 3)) (fun k => M.2 (o + 14) (16 * q + k)) a np))) → ∀ (j k : Nat) (x7 : Option Value), k + j = np → ZW w g 9 153 [some (.ref (w.2.2 o)), some (.int (nI q)), some (.int ln), some (.int (nI a)), some (.int y), some (.int d), some (.int (nI k)), x7, none] [] (za M (o + 3) (dealT (M.1 (o + 3)) (fun k => M.2 (o + 14) (16 * q + k)) a k)) := by
    intro q a y d hq ha K j
    have e0 : ∀ f, (za M (o + 3) f).1 o 1 = nI np := fun f => by rw [za_off _ (by omega)]; exact hnp
    have e2 : ∀ f, (za M (o + 3) f).2 = M.2 := fun f => rfl
    induction j with
    | zero =>
      intro k x7 hkj
      obtain rfl : k = np := by omega
      refine z_iload F dX8_deal_153 rfl ?_
      refine z_aload_n F dX8_deal_155 rfl ?_
      refine zg_X8_people F (by with_reducible assumption) fl_X8_76 dX8_deal_156 ?_
      try simp only [e0]
      refine z_ic_ge (tgt := 208) F dX8_deal_159 (by decide) (fun h_159 => ?_) (fun h_159 => absurd h_159 (nlt (Int32.le_refl _)))
      exact K _ rfl
    | succ j ih =>
      intro k x7 hkj
      have ea : M.2 (o + 14) (16 * q + a + k) = M.2 (o + 14) (16 * q + (a + k)) := by rw [Nat.add_assoc]
      refine z_iload F dX8_deal_153 rfl ?_
      refine z_aload_n F dX8_deal_155 rfl ?_
      refine zg_X8_people F (by with_reducible assumption) fl_X8_76 dX8_deal_156 ?_
      try simp only [e0, e2, ea, lg_cmp_ge, lg_cmp_lt]
      refine z_ic_ge (tgt := 208) F dX8_deal_159 (by decide) (fun h_159 => absurd h_159 (nle (nI_lt (by omega) (by omega)))) (fun h_159 => ?_)
      refine z_aload_n F dX8_deal_162 rfl ?_
      refine zg_X8_items F (by with_reducible assumption) fl_X8_49 dX8_deal_163 (fun hk_163 => ?_)
      refine z_bipush (v := 16) F dX8_deal_166 (by decide) ?_
      refine z_iload_n F dX8_deal_168 rfl ?_
      refine z_imul F dX8_deal_169 ?_
      refine z_iload_n F dX8_deal_170 rfl ?_
      refine z_iadd F dX8_deal_171 ?_
      refine z_iload F dX8_deal_172 rfl ?_
      refine z_iadd F dX8_deal_174 ?_
      refine z_lald14n (q := (((16 * q) + a) + k)) F (by with_reducible assumption) (by first | with_reducible rfl | (simp only [n4, n2, n3, n5, n14, n16, na1, na2, na3, nI_add, nI_1, nI_pred]; done) | (simp only [n4, n2, n3, n5, n14, n16, na1, na2, na3, nI_add, nI_1, nI_pred, Nat.add_assoc, Nat.add_comm, Nat.add_left_comm]; done)) (by rw [hz14]; omega) dX8_deal_175 ?_
      try simp only [e0, e2, ea, lg_cmp_ge, lg_cmp_lt]
      refine z_lstore (lv' := [_, _, _, _, _, _, _, _, _]) F dX8_deal_176 (by decide) rfl rfl ?_
      refine z_aload_n F dX8_deal_178 rfl ?_
      refine zg_X8_now F (by with_reducible assumption) fl_X8_16 dX8_deal_179 (fun hk_179 => ?_)
      refine z_iconst (v := 5) F dX8_deal_182 (by decide) ?_
      refine z_iload F dX8_deal_183 rfl ?_
      refine z_iadd F dX8_deal_185 ?_
      refine z_lload F dX8_deal_186 rfl ?_
      refine z_lconst (v := 0) F dX8_deal_188 (by decide) ?_
      refine z_lcmp F dX8_deal_189 ?_
      refine z_if_ge (tgt := 198) F dX8_deal_190 (by decide) (fun h_190 => ?_) (fun h_190 => ?_)
      · try simp only [e0, e2, ea, lg_cmp_ge, lg_cmp_lt] at h_190
        refine z_lload F dX8_deal_198 rfl ?_
        refine z_l2i F dX8_deal_200 ?_
        refine z_iast10n (q := (5 + k)) F (by with_reducible assumption) (by first | with_reducible rfl | (simp only [n4, n2, n3, n5, n14, n16, na1, na2, na3, nI_add, nI_1, nI_pred]; done) | (simp only [n4, n2, n3, n5, n14, n16, na1, na2, na3, nI_add, nI_1, nI_pred, Nat.add_assoc, Nat.add_comm, Nat.add_left_comm]; done)) (by rw [hz3]; omega) dX8_deal_201 ?_
        refine z_iincc (c := 1) (lv' := [_, _, _, _, _, _, _, _, _]) F dX8_deal_202 rfl (by decide) (by decide) rfl rfl ?_
        refine z_goto (tgt := 153) F dX8_deal_205 (by decide) ?_
        rw [nI_1, zs_za, za_at, za_za, dealT_s (M.1 (o + 3)) (fun k => M.2 (o + 14) (16 * q + k)) a k (if_neg (Int64.not_lt.mpr h_190)).symm]
        exact ih (k + 1) _ (by omega)
      · try simp only [e0, e2, ea, lg_cmp_ge, lg_cmp_lt] at h_190
        refine z_bipush (v := (-4)) F dX8_deal_193 (by decide) ?_
        refine z_goto (tgt := 201) F dX8_deal_195 (by decide) ?_
        refine z_iast10n (q := (5 + k)) F (by with_reducible assumption) (by first | with_reducible rfl | (simp only [n4, n2, n3, n5, n14, n16, na1, na2, na3, nI_add, nI_1, nI_pred]; done) | (simp only [n4, n2, n3, n5, n14, n16, na1, na2, na3, nI_add, nI_1, nI_pred, Nat.add_assoc, Nat.add_comm, Nat.add_left_comm]; done)) (by rw [hz3]; omega) dX8_deal_201 ?_
        refine z_iincc (c := 1) (lv' := [_, _, _, _, _, _, _, _, _]) F dX8_deal_202 rfl (by decide) (by decide) rfl rfl ?_
        refine z_goto (tgt := 153) F dX8_deal_205 (by decide) ?_
        rw [nI_1, zs_za, za_at, za_za, dealT_s (M.1 (o + 3)) (fun k => M.2 (o + 14) (16 * q + k)) a k (if_pos h_190).symm]
        exact ih (k + 1) _ (by omega)
  have key1 : ∀ (q a : Nat) (y : Int32), q < 4 → a + np ≤ 16 → (dlR (fun k => M.2 (o + 14) (16 * q + k)) (M.1 o 0) np a (dlD (M.1 (o + 3) 0)) = false → ∀ lv, ZW w g 9 120 lv [] M) → (dlR (fun k => M.2 (o + 14) (16 * q + k)) (M.1 o 0) np a (dlD (M.1 (o + 3) 0)) = true → ∀ d z x7, ZW w g 9 150 [some (.ref (w.2.2 o)), some (.int (nI q)), some (.int ln), some (.int (nI a)), some (.int y), some (.int d), some (.int z), x7, none] [] M) → ∀ (j k : Nat) (d : Int32) (x7 : Option Value), k + j = np → dlR (fun k => M.2 (o + 14) (16 * q + k)) (M.1 o 0) j (a + k) d = dlR (fun k => M.2 (o + 14) (16 * q + k)) (M.1 o 0) np a (dlD (M.1 (o + 3) 0)) → ZW w g 9 65 [some (.ref (w.2.2 o)), some (.int (nI q)), some (.int ln), some (.int (nI a)), some (.int y), some (.int d), some (.int (nI k)), x7, none] [] M := by
    intro q a y hq ha Kf Kt j
    induction j with
    | zero =>
      intro k d x7 hkj hR
      obtain rfl : k = np := by omega
      refine z_iload F dX8_deal_65 rfl ?_
      refine z_aload_n F dX8_deal_67 rfl ?_
      refine zg_X8_people F (by with_reducible assumption) fl_X8_76 dX8_deal_68 ?_
      try simp only [hnp]
      refine z_ic_ge (tgt := 150) F dX8_deal_71 (by decide) (fun h_71 => ?_) (fun h_71 => absurd h_71 (nlt (Int32.le_refl _)))
      exact Kt hR.symm _ _ _
    | succ j ih =>
      intro k d x7 hkj hR
      have ea : M.2 (o + 14) (16 * q + a + k) = M.2 (o + 14) (16 * q + (a + k)) := by rw [Nat.add_assoc]
      rw [dlR] at hR
      refine z_iload F dX8_deal_65 rfl ?_
      refine z_aload_n F dX8_deal_67 rfl ?_
      refine zg_X8_people F (by with_reducible assumption) fl_X8_76 dX8_deal_68 ?_
      try simp only [hnp, ea, lg_cmp_ge, lg_cmp_lt]
      refine z_ic_ge (tgt := 150) F dX8_deal_71 (by decide) (fun h_71 => absurd h_71 (nle (nI_lt (by omega) (by omega)))) (fun h_71 => ?_)
      refine z_aload_n F dX8_deal_74 rfl ?_
      refine zg_X8_items F (by with_reducible assumption) fl_X8_49 dX8_deal_75 (fun hk_75 => ?_)
      refine z_bipush (v := 16) F dX8_deal_78 (by decide) ?_
      refine z_iload_n F dX8_deal_80 rfl ?_
      refine z_imul F dX8_deal_81 ?_
      refine z_iload_n F dX8_deal_82 rfl ?_
      refine z_iadd F dX8_deal_83 ?_
      refine z_iload F dX8_deal_84 rfl ?_
      refine z_iadd F dX8_deal_86 ?_
      refine z_lald14n (q := (((16 * q) + a) + k)) F (by with_reducible assumption) (by first | with_reducible rfl | (simp only [n4, n2, n3, n5, n14, n16, na1, na2, na3, nI_add, nI_1, nI_pred]; done) | (simp only [n4, n2, n3, n5, n14, n16, na1, na2, na3, nI_add, nI_1, nI_pred, Nat.add_assoc, Nat.add_comm, Nat.add_left_comm]; done)) (by rw [hz14]; omega) dX8_deal_87 ?_
      try simp only [hnp, ea, lg_cmp_ge, lg_cmp_lt]
      refine z_lstore (lv' := [_, _, _, _, _, _, _, _, _]) F dX8_deal_88 (by decide) rfl rfl ?_
      refine z_lload F dX8_deal_90 rfl ?_
      refine z_aload_n F dX8_deal_92 rfl ?_
      refine zg_X8_things F (by with_reducible assumption) fl_X8_69 dX8_deal_93 ?_
      try simp only [hnp, ea, lg_cmp_ge, lg_cmp_lt]
      refine z_i2l F dX8_deal_96 ?_
      refine z_lcmp F dX8_deal_97 ?_
      refine z_if_ge (tgt := 120) F dX8_deal_98 (by decide) (fun h_98 => ?_) (fun h_98 => ?_)
      · try simp only [hnp, ea, lg_cmp_ge, lg_cmp_lt] at h_98
        rw [if_pos (Or.inl h_98)] at hR
        exact Kf hR.symm _
      · try simp only [hnp, ea, lg_cmp_ge, lg_cmp_lt] at h_98
        refine z_lload F dX8_deal_101 rfl ?_
        refine z_lconst (v := 0) F dX8_deal_103 (by decide) ?_
        refine z_lcmp F dX8_deal_104 ?_
        refine z_if_lt (tgt := 123) F dX8_deal_105 (by decide) (fun h_105 => ?_) (fun h_105 => ?_)
        · try simp only [hnp, ea, lg_cmp_ge, lg_cmp_lt] at h_105
          refine z_iload F dX8_deal_123 rfl ?_
          refine z_lload F dX8_deal_125 rfl ?_
          refine z_lconst (v := 0) F dX8_deal_127 (by decide) ?_
          refine z_lcmp F dX8_deal_128 ?_
          refine z_if_ge (tgt := 136) F dX8_deal_129 (by decide) (fun h_129 => absurd h_129 (by simp only [lg_cmp_ge]; exact Int64.not_le.mpr h_105)) (fun h_129 => ?_)
          refine z_iconst (v := 0) F dX8_deal_132 (by decide) ?_
          refine z_goto (tgt := 141) F dX8_deal_133 (by decide) ?_
          refine z_ior F dX8_deal_141 ?_
          refine z_istore (lv' := [_, _, _, _, _, _, _, _, _]) F dX8_deal_142 (by decide) rfl rfl ?_
          refine z_iincc (c := 1) (lv' := [_, _, _, _, _, _, _, _, _]) F dX8_deal_144 rfl (by decide) (by decide) rfl rfl ?_
          refine z_goto (tgt := 65) F dX8_deal_147 (by decide) ?_
          rw [if_neg (fun z => z.elim (fun z => Int64.not_le.mpr h_98 z) (fun z => Int64.not_le.mpr h_105 z.1)), if_pos h_105] at hR
          rw [nI_1]
          exact ih (k + 1) _ _ (by omega) hR
        · try simp only [hnp, ea, lg_cmp_ge, lg_cmp_lt] at h_105
          refine z_iload F dX8_deal_108 rfl ?_
          refine z_lload F dX8_deal_110 rfl ?_
          refine z_l2i F dX8_deal_112 ?_
          refine z_ishr F dX8_deal_113 ?_
          refine z_iconst (v := 1) F dX8_deal_114 (by decide) ?_
          refine z_iand F dX8_deal_115 ?_
          refine z_iconst (v := 1) F dX8_deal_116 (by decide) ?_
          refine z_ic_ne (tgt := 123) F dX8_deal_117 (by decide) (fun h_117 => ?_) (fun h_117 => ?_)
          · try simp only [hnp, ea, lg_cmp_ge, lg_cmp_lt] at h_117
            refine z_iload F dX8_deal_123 rfl ?_
            refine z_lload F dX8_deal_125 rfl ?_
            refine z_lconst (v := 0) F dX8_deal_127 (by decide) ?_
            refine z_lcmp F dX8_deal_128 ?_
            refine z_if_ge (tgt := 136) F dX8_deal_129 (by decide) (fun h_129 => ?_) (fun h_129 => absurd h_129 (by simp only [lg_cmp_lt]; exact Int64.not_lt.mpr h_105))
            refine z_iconst (v := 1) F dX8_deal_136 (by decide) ?_
            refine z_lload F dX8_deal_137 rfl ?_
            refine z_l2i F dX8_deal_139 ?_
            refine z_ishl F dX8_deal_140 ?_
            refine z_ior F dX8_deal_141 ?_
            refine z_istore (lv' := [_, _, _, _, _, _, _, _, _]) F dX8_deal_142 (by decide) rfl rfl ?_
            refine z_iincc (c := 1) (lv' := [_, _, _, _, _, _, _, _, _]) F dX8_deal_144 rfl (by decide) (by decide) rfl rfl ?_
            refine z_goto (tgt := 65) F dX8_deal_147 (by decide) ?_
            rw [if_neg (fun z => z.elim (fun z => Int64.not_le.mpr h_98 z) (fun z => h_117 z.2)), if_neg (Int64.not_lt.mpr h_105)] at hR
            rw [nI_1]
            exact ih (k + 1) _ _ (by omega) hR
          · try simp only [hnp, ea, lg_cmp_ge, lg_cmp_lt] at h_117
            rw [if_pos (Or.inr ⟨h_105, h_117⟩)] at hR
            exact Kf hR.symm _
  refine z_iload_n F dX8_deal_0 rfl ?_
  refine z_callSi F (c_X8_isSheet J) zm_X8_isSheet zst_X8_isSheet ml_X8_227 rfl rfl (Nat.le_of_ble_eq_true rfl) dX8_deal_1 (by omega) (fun r_1 M_1 h_1 => ?_)
  obtain ⟨e_1, rfl⟩ := h_1
  replace e_1 := Eq.symm e_1
  subst e_1
  refine z_if_eq (tgt := 14) F dX8_deal_4 (by decide) (fun h_4 => ?_) (fun h_4 => ?_)
  · replace h_4 := bI_0.mp h_4
    try simp only [hnp] at h_4
    refine z_iconst (v := (-1)) F dX8_deal_14 (by decide) ?_
    refine z_iret F X dX8_deal_15 ?_
    exact Or.inl ⟨Or.inl (Classical.not_not.mp h_4), rfl, rfl⟩
  · replace h_4 := bI_1.mp h_4
    try simp only [hnp] at h_4
    refine z_iload_n F dX8_deal_7 rfl ?_
    refine z_callSi F (c_X8_isLane J) zm_X8_isLane zst_X8_isLane ml_X8_230 rfl rfl (Nat.le_of_ble_eq_true rfl) dX8_deal_8 (by omega) (fun r_8 M_8 h_8 => ?_)
    obtain ⟨e_8, rfl⟩ := h_8
    replace e_8 := Eq.symm e_8
    subst e_8
    refine z_if_ne (tgt := 16) F dX8_deal_11 (by decide) (fun h_11 => ?_) (fun h_11 => ?_)
    · replace h_11 := bI_1.mp h_11
      try simp only [hnp] at h_11
      obtain ⟨q, hq, rfl⟩ := s4_in h_4
      refine z_aload_n F dX8_deal_16 rfl ?_
      refine z_iload_n F dX8_deal_17 rfl ?_
      refine z_iload_n F dX8_deal_18 rfl ?_
      refine z_iload_n F dX8_deal_19 rfl ?_
      refine z_aload_n F dX8_deal_20 rfl ?_
      refine zg_X8_people F (by with_reducible assumption) fl_X8_76 dX8_deal_21 ?_
      try simp only [hnp]
      refine z_callVi F (c_X8_why J hk ho hq) zm_X8_why zv_X8_why ml_X8_235 (by with_reducible assumption) (by decide) rfl rfl rfl (Nat.le_of_ble_eq_true rfl) dX8_deal_24 (by omega) (fun r_24 M_24 h_24 => ?_)
      obtain ⟨e_24, rfl⟩ := h_24
      replace e_24 := Eq.symm e_24
      subst e_24
      refine z_istore (lv' := [_, _, _, _, _, _, _, _, _]) F dX8_deal_27 (by decide) rfl rfl ?_
      refine z_iload F dX8_deal_29 rfl ?_
      refine z_if_ge (tgt := 37) F dX8_deal_31 (by decide) (fun h_31 => ?_) (fun h_31 => ?_)
      · try simp only [hnp] at h_31
        have h31 := nlt h_31
        obtain ⟨L, hL, hB⟩ := hS q hq
        obtain ⟨a, rfl, haL⟩ := why_ok2 (by omega) hB hL h31
        refine z_aload_n F dX8_deal_37 rfl ?_
        refine zg_X8_now F (by with_reducible assumption) fl_X8_16 dX8_deal_38 (fun hk_38 => ?_)
        refine z_iconst (v := 0) F dX8_deal_41 (by decide) ?_
        refine z_iald10n (q := 0) F (by with_reducible assumption) (by decide) (by rw [hz3]; omega) dX8_deal_42 ?_
        try simp only [hnp]
        refine z_bipush (v := (-4)) F dX8_deal_43 (by decide) ?_
        refine z_ic_ne (tgt := 52) F dX8_deal_45 (by decide) (fun h_45 => ?_) (fun h_45 => ?_)
        · try simp only [hnp] at h_45
          refine z_iconst (v := 1) F dX8_deal_52 (by decide) ?_
          refine z_aload_n F dX8_deal_53 rfl ?_
          refine zg_X8_now F (by with_reducible assumption) fl_X8_16 dX8_deal_54 (fun hk_54 => ?_)
          refine z_iconst (v := 0) F dX8_deal_57 (by decide) ?_
          refine z_iald10n (q := 0) F (by with_reducible assumption) (by decide) (by rw [hz3]; omega) dX8_deal_58 ?_
          try simp only [hnp]
          refine z_ishl F dX8_deal_59 ?_
          refine z_istore (lv' := [_, _, _, _, _, _, _, _, _]) F dX8_deal_60 (by decide) rfl rfl ?_
          refine z_iconst (v := 0) F dX8_deal_62 (by decide) ?_
          refine z_istore (lv' := [_, _, _, _, _, _, _, _, _]) F dX8_deal_63 (by decide) rfl rfl ?_
          refine key1 q a _ hq (by omega) ?_ ?_ np 0 _ none (by omega) ?_
          · intro hR lv
            refine z_bipush (v := -2) F dX8_deal_120 (by decide) ?_
            refine z_iret F X dX8_deal_122 ?_
            exact Or.inr ⟨fun z => z.elim h_4 h_11, q, hq, rfl, Or.inr ⟨h31, a, rfl, by omega, Or.inl ⟨hR, rfl, rfl⟩⟩⟩
          · intro hR d z x7
            refine z_iconst (v := 0) F dX8_deal_150 (by decide) ?_
            refine z_istore (lv' := [_, _, _, _, _, _, _, _, _]) F dX8_deal_151 (by decide) rfl rfl ?_
            have k0 := key2 q a (whyF (M.1 (o + 12) q) (M.1 (o + 13) q) ln (nI a) (nI np)) d hq (by omega) ?_ np 0 x7 (by omega)
            · have e9 : dealT (M.1 (o + 3)) (fun k => M.2 (o + 14) (16 * q + k)) a 0 = M.1 (o + 3) := funext fun q => if_neg (by omega)
              rw [e9, za_self] at k0
              exact k0
            · intro lv hlv
              refine z_aload_n F dX8_deal_208 hlv ?_
              refine zg_X8_people F (by with_reducible assumption) fl_X8_76 dX8_deal_209 ?_
              rw [za_off _ (by omega), hnp]
              refine z_iret F X dX8_deal_212 ?_
              exact Or.inr ⟨fun z => z.elim h_4 h_11, q, hq, rfl, Or.inr ⟨h31, a, rfl, by omega, Or.inr ⟨hR, rfl, rfl⟩⟩⟩
          · unfold dlD
            first | (rw [if_pos h_45]; rfl) | (rw [if_neg h_45]; rfl)
        · try simp only [hnp] at h_45
          refine z_iconst (v := 0) F dX8_deal_48 (by decide) ?_
          refine z_goto (tgt := 60) F dX8_deal_49 (by decide) ?_
          refine z_istore (lv' := [_, _, _, _, _, _, _, _, _]) F dX8_deal_60 (by decide) rfl rfl ?_
          refine z_iconst (v := 0) F dX8_deal_62 (by decide) ?_
          refine z_istore (lv' := [_, _, _, _, _, _, _, _, _]) F dX8_deal_63 (by decide) rfl rfl ?_
          refine key1 q a _ hq (by omega) ?_ ?_ np 0 _ none (by omega) ?_
          · intro hR lv
            refine z_bipush (v := -2) F dX8_deal_120 (by decide) ?_
            refine z_iret F X dX8_deal_122 ?_
            exact Or.inr ⟨fun z => z.elim h_4 h_11, q, hq, rfl, Or.inr ⟨h31, a, rfl, by omega, Or.inl ⟨hR, rfl, rfl⟩⟩⟩
          · intro hR d z x7
            refine z_iconst (v := 0) F dX8_deal_150 (by decide) ?_
            refine z_istore (lv' := [_, _, _, _, _, _, _, _, _]) F dX8_deal_151 (by decide) rfl rfl ?_
            have k0 := key2 q a (whyF (M.1 (o + 12) q) (M.1 (o + 13) q) ln (nI a) (nI np)) d hq (by omega) ?_ np 0 x7 (by omega)
            · have e9 : dealT (M.1 (o + 3)) (fun k => M.2 (o + 14) (16 * q + k)) a 0 = M.1 (o + 3) := funext fun q => if_neg (by omega)
              rw [e9, za_self] at k0
              exact k0
            · intro lv hlv
              refine z_aload_n F dX8_deal_208 hlv ?_
              refine zg_X8_people F (by with_reducible assumption) fl_X8_76 dX8_deal_209 ?_
              rw [za_off _ (by omega), hnp]
              refine z_iret F X dX8_deal_212 ?_
              exact Or.inr ⟨fun z => z.elim h_4 h_11, q, hq, rfl, Or.inr ⟨h31, a, rfl, by omega, Or.inr ⟨hR, rfl, rfl⟩⟩⟩
          · unfold dlD
            first | (rw [if_pos h_45]; rfl) | (rw [if_neg h_45]; rfl)
      · try simp only [hnp] at h_31
        refine z_iload F dX8_deal_34 rfl ?_
        refine z_iret F X dX8_deal_36 ?_
        exact Or.inr ⟨fun z => z.elim h_4 h_11, q, hq, rfl, Or.inl ⟨h_31, rfl, rfl⟩⟩
    · replace h_11 := bI_0.mp h_11
      try simp only [hnp] at h_11
      refine z_iconst (v := (-1)) F dX8_deal_14 (by decide) ?_
      refine z_iret F X dX8_deal_15 ?_
      exact Or.inl ⟨Or.inr (Classical.not_not.mp h_11), rfl, rfl⟩
end
section
/-! a film, the reference's, in general -/
theorem zr_zya (M : zM) (b : Nat) (f : Nat → Int64) (o : Nat) (T : zF1) (rf : Int32) : zr (zya M b f) o T rf = zya (zr M o T rf) b f := rfl
theorem passF_ok {nt : Nat} {s : zF1 × Int32} (h : tv9 nt s.1) (rb th pe : zF1) {np a : Nat} (h3 : s.1 3 = nI a) (ha : a ≤ 12) (hp : np ≤ 9) : tv9 nt (passF rb th pe np 1 s).1 := by
  rw [← passM_F rb th pe np 1 h3 ha]
  exact (pass_ok h rb th pe (-4) 1 hp).1
theorem d_goesOn_film {l : Launch} {w : zE} (J : zJ w) {M : zM} {o nt np a b : Nat} {T : zF1} {rf : Int32} {f : Nat → Int64} (hk : zk o = 8) (ho : o = 138) (ok : rOK M o nt np a) (tv : tv9 nt T) (h3 : T 3 = nI b) (hb : b ≤ 12) : zCv l w yX8_goesOn cX8_goesOn 3 5 [.ref (w.2.2 o)] (zya (zr (asd M o) o T rf) (o + 14) f) (fun M2 => M2 = zya (zr (asd M o) o (passF (rbM (M.1 o)) (M.1 (o + 1)) (M.1 (o + 2)) np 1 (T, rf)).1 (passF (rbM (M.1 o)) (M.1 (o + 1)) (M.1 (o + 2)) np 1 (T, rf)).2) (o + 14) f) := by
  obtain ⟨hnt, h10, hnp, h8, kd, _, ha, h12, hts⟩ := id ok
  have x : zgx o M (zr (asd M o) o T rf) := (asd_x M o).r
  have e1 : (zya (zr (asd M o) o T rf) (o + 14) f).1 (o + 1) = M.1 (o + 1) := x.2.1 (o + 1) (by omega) (by omega) (by omega) (by omega) (by omega)
  have e2 : (zya (zr (asd M o) o T rf) (o + 14) f).1 (o + 2) = M.1 (o + 2) := x.2.1 (o + 2) (by omega) (by omega) (by omega) (by omega) (by omega)
  have e3 : (zya (zr (asd M o) o T rf) (o + 14) f).1 (o + 3) = T := zr_T _ _ _ _
  have e7 : (zya (zr (asd M o) o T rf) (o + 14) f).1 o 7 = -4 := (zr_of _ _ _ _ (by decide)).trans (asd_7 M o)
  have e8 : (zya (zr (asd M o) o T rf) (o + 14) f).1 o 8 = 0 := ((zr_of _ _ _ _ (by decide)).trans (asd_o M (by decide))).trans hts
  have e18 : (zya (zr (asd M o) o T rf) (o + 14) f).1 o 18 = rf := zr_rf _ _ _ _
  have er : rbM ((zya (zr (asd M o) o T rf) (o + 14) f).1 o) = rbM (M.1 o) := (rbM_x x :)
  refine zCv_post (fun M2 h => ?_) (c_X8_goesOn (nt := nt) (np := np) J hk ho ((x.2.2 0 (by decide) (by decide) (by decide)).trans hnt) h10 ((x.2.2 1 (by decide) (by decide) (by decide)).trans hnp) h8 (by rw [e1]; exact kd) (by rw [e3]; exact tv))
  rw [er, e1, e2, e3, e7, e8, e18, coin_0, passM_F _ _ _ _ _ (a := b) h3 hb, zr_zya, zr_zr] at h
  exact h
theorem c_X8_film {l : Launch} {w : zE} (J : zJ w) {M : zM} {o nt np a : Nat} {x ln i : Int32} (hk : zk o = 8) (ho : o = 138) (ok : rOK M o nt np a) (hS : szOK (M.1 (o + 13))) : zCi l w yX8_film cX8_film 7 (some .int) 7 [.ref (w.2.2 o), .int x, .int ln, .int i] M (fun r M2 => (((x < 0 ∨ 3 < x) ∨ (ln < 0 ∨ 3 < ln)) ∧ r = -1 ∧ M2 = M) ∨ (¬ ((x < 0 ∨ 3 < x) ∨ (ln < 0 ∨ 3 < ln)) ∧ ∃ q, q < 4 ∧ x = nI q ∧ ((whyF (M.1 (o + 12) q) (M.1 (o + 13) q) ln i (nI (12 - a)) < 0 ∧ r = whyF (M.1 (o + 12) q) (M.1 (o + 13) q) ln i (nI (12 - a)) ∧ M2 = M) ∨ (¬ whyF (M.1 (o + 12) q) (M.1 (o + 13) q) ln i (nI (12 - a)) < 0 ∧ r = nI (12 - a) ∧ ∃ p, i = nI p ∧ p + (12 - a) ≤ 16 ∧ zgf o M (M2.1, M.2) ∧ M2.2 = va_up M.2 (o + 14) (filmL (rbM (M.1 o)) (M.1 (o + 1)) (M.1 (o + 2)) np (M.1 (o + 12) q) (12 - a) (16 * q + p) (M.1 (o + 3), M.1 o 18) (M.2 (o + 14))))))) := by
  obtain ⟨hz1, hz2, hz3, hz4, hz5, hz6, hz7, hz8, hz9, hz10, hz11, hz12, hz13, hz14, hz15⟩ := zn8 ho
  obtain ⟨hnt, h10, hnp, h8, kd, tv, ha, h12, hts⟩ := id ok
  have hsub : 12 - nI a = nI (12 - a) := pk_sub (a := 12) (b := a) h12
  have e3 : ∀ T rf f, (zya (zr (asd M o) o T rf) (o + 14) f).1 (o + 3) = T := fun T rf f => zr_T _ _ _ _
  have e12 : ∀ T rf f, (zya (zr (asd M o) o T rf) (o + 14) f).1 (o + 12) = M.1 (o + 12) := fun T rf f => (zr_off (by omega) (by omega)).trans (asd_b M (by omega) (by omega))
  have e8 : ∀ T rf f, (zya (zr (asd M o) o T rf) (o + 14) f).1 (o + 8) = M.1 (o + 3) := fun T rf f => (zr_off (by omega) (by omega)).trans (asd_8 M o)
  refine zCi_of J zm_X8_film [some (.ref (w.2.2 o)), some (.int x), some (.int ln), some (.int i), none, none, none] (Nat.le_of_ble_eq_true rfl) rfl (fun g hg F X => ?_)
  subst hg
  have key : ∀ (q p : Nat) (y : Int32) (R : Nat → Int64), q < 4 → p + (12 - a) ≤ 16 → (∀ M2, zgf o M (M2.1, M.2) → M2.2 = va_up M.2 (o + 14) R → ∀ lv, lv[4]? = some (some (.int (nI (12 - a)))) → ZW w g 7 96 lv [] M2) → ∀ (j k : Nat) (T : zF1) (rf : Int32) (f : Nat → Int64), k + j = 12 - a → tv9 nt T → T 3 = nI (a + k) → filmL (rbM (M.1 o)) (M.1 (o + 1)) (M.1 (o + 2)) np (M.1 (o + 12) q) j (16 * q + p + k) (T, rf) f = R → ZW w g 7 59 [some (.ref (w.2.2 o)), some (.int (nI q)), some (.int ln), some (.int (nI p)), some (.int (nI (12 - a))), some (.int y), some (.int (nI k))] [] (zya (zr (asd M o) o T rf) (o + 14) f) := by
    intro q p y R hq hp K j
    induction j with
    | zero =>
      intro k T rf f hkj tv3 h3 hR
      obtain rfl : k = 12 - a := by omega
      refine z_iload F dX8_film_59 rfl ?_
      refine z_iload F dX8_film_61 rfl ?_
      refine z_ic_ge (tgt := 92) F dX8_film_63 (by decide) (fun h_63 => ?_) (fun h_63 => absurd h_63 (nlt (Int32.le_refl _)))
      refine z_aload_n F dX8_film_92 rfl ?_
      refine z_callVv F (c_X8_backs J hk ho) zm_X8_backs zv_X8_backs ml_X8_201 (by with_reducible assumption) (by decide) rfl rfl rfl (Nat.le_of_ble_eq_true rfl) dX8_film_93 (by omega) (fun M_93 h_93 => ?_)
      replace h_93 := Eq.symm h_93
      subst h_93
      rw [e8]
      refine K _ ?_ ?_ _ rfl
      · have zb := zgf.back (M' := zr (asd M o) o T rf) ((asd_x M o).r) ((zr_off (by omega) (by omega)).trans (asd_8 M o))
        rw [show (zr (asd M o) o T rf).1 (o + 8) = M.1 (o + 3) from (zr_off (by omega) (by omega)).trans (asd_8 M o)] at zb
        exact ⟨rfl, zb.2⟩
      · show va_up M.2 (o + 14) f = _
        rw [← hR]
        rfl
    | succ j ih =>
      intro k T rf f hkj tv3 h3 hR
      refine z_iload F dX8_film_59 rfl ?_
      refine z_iload F dX8_film_61 rfl ?_
      refine z_ic_ge (tgt := 92) F dX8_film_63 (by decide) (fun h_63 => absurd h_63 (nle (nI_lt (by omega) (by omega)))) (fun h_63 => ?_)
      refine z_aload_n F dX8_film_66 rfl ?_
      refine z_callVv F (d_goesOn_film J hk ho ok tv3 h3 (by omega)) zm_X8_goesOn zv_X8_goesOn ml_X8_192 (by with_reducible assumption) (by decide) rfl rfl rfl (Nat.le_of_ble_eq_true rfl) dX8_film_67 (by omega) (fun M_67 h_67 => ?_)
      replace h_67 := Eq.symm h_67
      subst h_67
      refine z_aload_n F dX8_film_70 rfl ?_
      refine z_iload_n F dX8_film_71 rfl ?_
      refine z_iload_n F dX8_film_72 rfl ?_
      refine z_iload F dX8_film_73 rfl ?_
      refine z_iadd F dX8_film_75 ?_
      rw [nI_add]
      refine z_aload_n F dX8_film_76 rfl ?_
      refine zg_X8_now F (by with_reducible assumption) fl_X8_16 dX8_film_77 (fun hk_77 => ?_)
      refine z_iconst (v := 0) F dX8_film_80 (by decide) ?_
      refine z_iald10n (q := 0) F (by with_reducible assumption) (by decide) (by rw [hz3]; omega) dX8_film_81 ?_
      try simp only [e3]
      refine z_i2l F dX8_film_82 ?_
      refine z_callVv F (c_X8_puts J hk ho hq (by omega)) zm_X8_puts zv_X8_puts ml_X8_239 (by with_reducible assumption) (by decide) rfl rfl rfl (Nat.le_of_ble_eq_true rfl) dX8_film_83 (by omega) (fun M_83 h_83 => ?_)
      replace h_83 := Eq.symm h_83
      subst h_83
      refine z_iincc (c := 1) (lv' := [_, _, _, _, _, _, _]) F dX8_film_86 rfl (by decide) (by decide) rfl rfl ?_
      refine z_goto (tgt := 59) F dX8_film_89 (by decide) ?_
      rw [nI_1, zy_zya]
      simp only [e12]
      have hz : (zya (zr (asd M o) o (passF (rbM (M.1 o)) (M.1 (o + 1)) (M.1 (o + 2)) np 1 (T, rf)).1 (passF (rbM (M.1 o)) (M.1 (o + 1)) (M.1 (o + 2)) np 1 (T, rf)).2) (o + 14) f).2 (o + 14) = f := va_up_self _ _ _
      refine ih (k + 1) _ _ _ (by omega) (passF_ok (s := (T, rf)) tv3 _ _ _ (a := a + k) h3 (by omega) (by omega)) (by rw [passF_3]; show T 3 + 1 = _; rw [h3, nI_1, Nat.add_assoc]) ?_
      rw [filmL] at hR
      rw [← hR, show 16 * q + p + (k + 1) = 16 * q + p + k + 1 from rfl, show 16 * q + (p + k) = 16 * q + p + k from (Nat.add_assoc _ _ _).symm]
  refine z_iload_n F dX8_film_0 rfl ?_
  refine z_callSi F (c_X8_isSheet J) zm_X8_isSheet zst_X8_isSheet ml_X8_227 rfl rfl (Nat.le_of_ble_eq_true rfl) dX8_film_1 (by omega) (fun r_1 M_1 h_1 => ?_)
  obtain ⟨e_1, rfl⟩ := h_1
  replace e_1 := Eq.symm e_1
  subst e_1
  refine z_if_eq (tgt := 14) F dX8_film_4 (by decide) (fun h_4 => ?_) (fun h_4 => ?_)
  · replace h_4 := bI_0.mp h_4
    try simp only [ha] at h_4
    refine z_iconst (v := (-1)) F dX8_film_14 (by decide) ?_
    refine z_iret F X dX8_film_15 ?_
    exact Or.inl ⟨Or.inl (Classical.not_not.mp h_4), rfl, rfl⟩
  · replace h_4 := bI_1.mp h_4
    try simp only [ha] at h_4
    refine z_iload_n F dX8_film_7 rfl ?_
    refine z_callSi F (c_X8_isLane J) zm_X8_isLane zst_X8_isLane ml_X8_230 rfl rfl (Nat.le_of_ble_eq_true rfl) dX8_film_8 (by omega) (fun r_8 M_8 h_8 => ?_)
    obtain ⟨e_8, rfl⟩ := h_8
    replace e_8 := Eq.symm e_8
    subst e_8
    refine z_if_ne (tgt := 16) F dX8_film_11 (by decide) (fun h_11 => ?_) (fun h_11 => ?_)
    · replace h_11 := bI_1.mp h_11
      try simp only [ha] at h_11
      obtain ⟨q, hq, rfl⟩ := s4_in h_4
      refine z_bipush (v := 12) F dX8_film_16 (by decide) ?_
      refine z_aload_n F dX8_film_18 rfl ?_
      refine zg_X8_now F (by with_reducible assumption) fl_X8_16 dX8_film_19 (fun hk_19 => ?_)
      refine z_iconst (v := 3) F dX8_film_22 (by decide) ?_
      refine z_iald10n (q := 3) F (by with_reducible assumption) (by decide) (by rw [hz3]; omega) dX8_film_23 ?_
      try simp only [ha]
      refine z_isub F dX8_film_24 ?_
      rw [hsub]
      refine z_istore (lv' := [_, _, _, _, _, _, _]) F dX8_film_25 (by decide) rfl rfl ?_
      refine z_aload_n F dX8_film_27 rfl ?_
      refine z_iload_n F dX8_film_28 rfl ?_
      refine z_iload_n F dX8_film_29 rfl ?_
      refine z_iload_n F dX8_film_30 rfl ?_
      refine z_iload F dX8_film_31 rfl ?_
      refine z_callVi F (c_X8_why J hk ho hq) zm_X8_why zv_X8_why ml_X8_235 (by with_reducible assumption) (by decide) rfl rfl rfl (Nat.le_of_ble_eq_true rfl) dX8_film_33 (by omega) (fun r_33 M_33 h_33 => ?_)
      obtain ⟨e_33, rfl⟩ := h_33
      replace e_33 := Eq.symm e_33
      subst e_33
      refine z_istore (lv' := [_, _, _, _, _, _, _]) F dX8_film_36 (by decide) rfl rfl ?_
      refine z_iload F dX8_film_38 rfl ?_
      refine z_if_ge (tgt := 46) F dX8_film_40 (by decide) (fun h_40 => ?_) (fun h_40 => ?_)
      · try simp only [ha] at h_40
        have h40 := nlt h_40
        obtain ⟨L, hL, hB⟩ := hS q hq
        obtain ⟨p, rfl, haL⟩ := why_ok2 (by omega) hB hL h40
        refine z_aload_n F dX8_film_46 rfl ?_
        refine z_callVv F (c_X8_asides J hk ho) zm_X8_asides zv_X8_asides ml_X8_195 (by with_reducible assumption) (by decide) rfl rfl rfl (Nat.le_of_ble_eq_true rfl) dX8_film_47 (by omega) (fun M_47 h_47 => ?_)
        replace h_47 := Eq.symm h_47
        subst h_47
        refine z_aload_n F dX8_film_50 rfl ?_
        refine z_bipush (v := (-4)) F dX8_film_51 (by decide) ?_
        refine zp_X8_more F (by with_reducible assumption) fl_X8_186 dX8_film_53 ?_
        refine z_iconst (v := 0) F dX8_film_56 (by decide) ?_
        refine z_istore (lv' := [_, _, _, _, _, _, _]) F dX8_film_57 (by decide) rfl rfl ?_
        have k0 := key q p (whyF (M.1 (o + 12) q) (M.1 (o + 13) q) ln (nI p) (nI (12 - a))) _ hq (by omega) ?_ (12 - a) 0 (M.1 (o + 3)) (M.1 o 18) (M.2 (o + 14)) (by omega) tv ha rfl
        · have e9 : zya (zr (asd M o) o (M.1 (o + 3)) (M.1 o 18)) (o + 14) (M.2 (o + 14)) = asd M o := by
            have e4 := zr_self (asd M o) o
            rw [asd_b M (show o + 3 ≠ o by omega) (show o + 3 ≠ o + 8 by omega), asd_o M (show 18 ≠ 7 by decide)] at e4
            rw [e4]
            exact zya_self (asd M o) (o + 14)
          rw [e9] at k0
          exact k0
        · intro M2 hg h2 lv hlv
          refine z_iload F dX8_film_96 hlv ?_
          refine z_iret F X dX8_film_98 ?_
          exact Or.inr ⟨fun z => z.elim h_4 h_11, q, hq, rfl, Or.inr ⟨h40, rfl, p, rfl, by omega, hg, h2⟩⟩
      · try simp only [ha] at h_40
        refine z_iload F dX8_film_43 rfl ?_
        refine z_iret F X dX8_film_45 ?_
        exact Or.inr ⟨fun z => z.elim h_4 h_11, q, hq, rfl, Or.inl ⟨h_40, rfl, rfl⟩⟩
    · replace h_11 := bI_0.mp h_11
      try simp only [ha] at h_11
      refine z_iconst (v := (-1)) F dX8_film_14 (by decide) ?_
      refine z_iret F X dX8_film_15 ?_
      exact Or.inl ⟨Or.inr (Classical.not_not.mp h_11), rfl, rfl⟩
end
section
/-! the reference reads its tape: what stands while it does -/
theorem ZW_gen {w : zE} {g : zG} {nL pc : Nat} {lv : List (Option Value)} {st : List Value} {M : zM} (P : zM → Prop) (h : P M) (k : ∀ M1, P M1 → ZW w g nL pc lv st M1) : ZW w g nL pc lv st M := k M h
def pfr (M M' : zM) : Prop := M'.2 = M.2 ∧ (∀ b, b ≠ 138 → b ≠ 143 → b ≠ 144 → M'.1 b = M.1 b) ∧ (∀ k, (k < 11 ∨ 14 < k) → M'.1 138 k = M.1 138 k)
def RS (M0 M : zM) (p : Nat) (wr : Int32) (n m : Nat) (th pe : zF1) : Prop := pfr M0 M ∧ M.1 138 11 = nI p ∧ M.1 138 12 = wr ∧ M.1 138 13 = nI n ∧ M.1 138 14 = nI m ∧ M.1 143 = th ∧ M.1 144 = pe
theorem pfr.s {M M' : zM} (h : pfr M M') {k : Nat} {v : Int32} (hk : 11 ≤ k ∧ k ≤ 14) : pfr M (zs M' 138 k v) :=
  ⟨h.1, fun b h1 h2 h3 => (zs_off _ h1).trans (h.2.1 b h1 h2 h3), fun q hq => by rw [zs_g, if_neg (by omega)]; exact h.2.2 q hq⟩
theorem pfr.b {M M' : zM} (h : pfr M M') {b k : Nat} {v : Int32} (hb : b = 143 ∨ b = 144) : pfr M (zs M' b k v) :=
  ⟨h.1, fun c h1 h2 h3 => (zs_off _ (by omega)).trans (h.2.1 c h1 h2 h3), fun q hq => by rw [zs_g, if_neg (by omega)]; exact h.2.2 q hq⟩
theorem RS.at {M0 M : zM} {p n m : Nat} {wr : Int32} {th pe : zF1} (h : RS M0 M p wr n m th pe) (q : Nat) : RS M0 (zs M 138 11 (nI q)) q wr n m th pe := by
  obtain ⟨h1, h2, h3, h4, h5, h6, h7⟩ := h
  refine ⟨h1.s (by decide), by simp +decide only [zs_g, if_true], ?_, ?_, ?_, (zs_off _ (by decide)).trans h6, (zs_off _ (by decide)).trans h7⟩ <;> simp +decide only [zs_g, if_false] <;> assumption
theorem RS.wr {M0 M : zM} {p n m : Nat} {wr : Int32} {th pe : zF1} (h : RS M0 M p wr n m th pe) (v : Int32) : RS M0 (zs M 138 12 v) p v n m th pe := by
  obtain ⟨h1, h2, h3, h4, h5, h6, h7⟩ := h
  refine ⟨h1.s (by decide), ?_, by simp +decide only [zs_g, if_true], ?_, ?_, (zs_off _ (by decide)).trans h6, (zs_off _ (by decide)).trans h7⟩ <;> simp +decide only [zs_g, if_false] <;> assumption
theorem RS.mt {M0 M : zM} {p n m : Nat} {wr : Int32} {th pe : zF1} (h : RS M0 M p wr n m th pe) (q : Nat) : RS M0 (zs M 138 13 (nI q)) p wr q m th pe := by
  obtain ⟨h1, h2, h3, h4, h5, h6, h7⟩ := h
  refine ⟨h1.s (by decide), ?_, ?_, by simp +decide only [zs_g, if_true], ?_, (zs_off _ (by decide)).trans h6, (zs_off _ (by decide)).trans h7⟩ <;> simp +decide only [zs_g, if_false] <;> assumption
theorem RS.mp {M0 M : zM} {p n m : Nat} {wr : Int32} {th pe : zF1} (h : RS M0 M p wr n m th pe) (q : Nat) : RS M0 (zs M 138 14 (nI q)) p wr n q th pe := by
  obtain ⟨h1, h2, h3, h4, h5, h6, h7⟩ := h
  refine ⟨h1.s (by decide), ?_, ?_, ?_, by simp +decide only [zs_g, if_true], (zs_off _ (by decide)).trans h6, (zs_off _ (by decide)).trans h7⟩ <;> simp +decide only [zs_g, if_false] <;> assumption
theorem RS.th {M0 M : zM} {p n m : Nat} {wr : Int32} {th pe : zF1} (h : RS M0 M p wr n m th pe) (q : Nat) (v : Int32) : RS M0 (zs M 143 q v) p wr n m (va_up th q v) pe := by
  obtain ⟨h1, h2, h3, h4, h5, h6, h7⟩ := h
  refine ⟨h1.b (Or.inl rfl), ?_, ?_, ?_, ?_, by rw [zs_at, h6], (zs_off _ (by decide)).trans h7⟩ <;> simp +decide only [zs_g, if_false] <;> assumption
theorem RS.pe {M0 M : zM} {p n m : Nat} {wr : Int32} {th pe : zF1} (h : RS M0 M p wr n m th pe) (q : Nat) (v : Int32) : RS M0 (zs M 144 q v) p wr n m th (va_up pe q v) := by
  obtain ⟨h1, h2, h3, h4, h5, h6, h7⟩ := h
  refine ⟨h1.b (Or.inr rfl), ?_, ?_, ?_, ?_, (zs_off _ (by decide)).trans h6, by rw [zs_at, h7]⟩ <;> simp +decide only [zs_g, if_false] <;> assumption
theorem RS.len {M0 M : zM} {p n m len : Nat} {wr : Int32} {th pe : zF1} (h : RS M0 M p wr n m th pe) (hl : M0.1 138 10 = nI len) : M.1 138 10 = nI len := (h.1.2.2 10 (by decide)).trans hl
theorem RS.L {M0 M : zM} {p n m : Nat} {wr : Int32} {th pe : zF1} (h : RS M0 M p wr n m th pe) : M.1 142 = M0.1 142 := h.1.2.1 142 (by decide) (by decide) (by decide)
theorem p_here {l : Launch} {w : zE} (J : zJ w) {M0 M : zM} {p n m len : Nat} {wr : Int32} {th pe : zF1} (h : RS M0 M p wr n m th pe) (hl : M0.1 138 10 = nI len) (h120 : len ≤ 120) (hp : p ≤ len) : zCi l w yX8_here cX8_here 1 (some .int) 0 [.ref (w.2.2 138)] M (fun r M2 => RS M0 M2 (nxP (M0.1 142) (len - p) p) wr n m th pe ∧ r = chF (M0.1 142) len (nxP (M0.1 142) (len - p) p)) := by
  refine zCi_post (fun v M2 q => ?_) (c_X8_here J (by decide) rfl (h.len hl) h120 h.2.1 hp)
  obtain ⟨rfl, rfl⟩ := q
  rw [show M.1 (138 + 4) = M0.1 142 from h.L]
  exact ⟨h.at _, rfl⟩
def hsP (L : zF1) (len : Nat) (wr : Int32) (p : Nat) (c : Int32) : Nat := if wr = 0 then rdP L len p c else p
abbrev hsB (L : zF1) (len : Nat) (wr : Int32) (p : Nat) (c : Int32) : Prop := wr = 0 ∧ rdB L len p c
theorem hsP_0 (L : zF1) (len p : Nat) (c : Int32) : hsP L len 0 p c = rdP L len p c := if_pos rfl
theorem hsP_1 (L : zF1) (len p : Nat) (c : Int32) : hsP L len 1 p c = p := if_neg (by decide)
theorem p_has {l : Launch} {w : zE} (J : zJ w) {M0 M : zM} {p n m len : Nat} {wr c : Int32} {th pe : zF1} (h : RS M0 M p wr n m th pe) (hl : M0.1 138 10 = nI len) (h120 : len ≤ 120) (hp : p ≤ len) (h01 : wr = 0 ∨ wr = 1) : zCi l w yX8_has cX8_has 3 (some .boolean) 1 [.ref (w.2.2 138), .int c] M (fun r M2 => RS M0 M2 (hsP (M0.1 142) len wr p c) wr n m th pe ∧ r = bI (hsB (M0.1 142) len wr p c)) := by
  have hk : zk 138 = 8 := by decide
  have h12 := h.2.2.1
  rcases h01 with rfl | rfl
  · refine zCi_of J zm_X8_has [some (.ref (w.2.2 138)), some (.int c), none] (Nat.le_of_ble_eq_true rfl) rfl (fun g hg F X => ?_)
    subst hg
    rw [hsP_0] at X
    refine z_aload_n F dX8_has_0 rfl ?_
    refine zg_X8_wrong F (by with_reducible assumption) fl_X8_127 dX8_has_1 ?_
    try simp only [h12]
    refine z_if_ne (tgt := 19) F dX8_has_4 (by decide) (fun h_4 => absurd h_4 (by decide)) (fun h_4 => ?_)
    refine z_aload_n F dX8_has_7 rfl ?_
    refine z_callVi F (p_here J h hl h120 hp) zm_X8_here zv_X8_here ml_X8_131 (by with_reducible assumption) (by decide) rfl rfl rfl (Nat.le_of_ble_eq_true rfl) dX8_has_8 (by omega) (fun r_8 M_8 h_8 => ?_)
    obtain ⟨R_8, e_8⟩ := h_8
    subst e_8
    refine z_iload_n F dX8_has_11 rfl ?_
    refine z_ic_ne (tgt := 19) F dX8_has_12 (by decide) (fun h_12 => ?_) (fun h_12 => ?_)
    · try simp only [h12] at h_12
      refine z_iconst (v := 0) F dX8_has_19 (by decide) ?_
      refine z_istore_n (lv' := [_, _, _]) F dX8_has_20 (by decide) rfl rfl ?_
      refine z_aload_n F dX8_has_21 rfl ?_
      refine z_dup F dX8_has_22 rfl ?_
      refine zg_X8_at F (by with_reducible assumption) fl_X8_124 dX8_has_23 ?_
      simp only [R_8.2.1]
      refine z_iload_n F dX8_has_26 rfl ?_
      refine z_if_eq (tgt := 34) F dX8_has_27 (by decide) (fun h_27 => ?_) (fun h_27 => absurd h_27 (by decide))
      refine z_iconst (v := 0) F dX8_has_34 (by decide) ?_
      refine z_iadd F dX8_has_35 ?_
      refine zp_X8_at F (by with_reducible assumption) fl_X8_124 dX8_has_36 ?_
      refine z_iload_n F dX8_has_39 rfl ?_
      refine z_zret F X dX8_has_40 (by decide) ?_
      refine ⟨?_, bI_f (fun z => h_12 z.2)⟩
      rw [rdP, if_neg h_12, Int32.add_zero]
      exact R_8.at _
    · try simp only [h12] at h_12
      refine z_iconst (v := 1) F dX8_has_15 (by decide) ?_
      refine z_goto (tgt := 20) F dX8_has_16 (by decide) ?_
      refine z_istore_n (lv' := [_, _, _]) F dX8_has_20 (by decide) rfl rfl ?_
      refine z_aload_n F dX8_has_21 rfl ?_
      refine z_dup F dX8_has_22 rfl ?_
      refine zg_X8_at F (by with_reducible assumption) fl_X8_124 dX8_has_23 ?_
      simp only [R_8.2.1]
      refine z_iload_n F dX8_has_26 rfl ?_
      refine z_if_eq (tgt := 34) F dX8_has_27 (by decide) (fun h_27 => absurd h_27 (by decide)) (fun h_27 => ?_)
      refine z_iconst (v := 1) F dX8_has_30 (by decide) ?_
      refine z_goto (tgt := 35) F dX8_has_31 (by decide) ?_
      refine z_iadd F dX8_has_35 ?_
      refine zp_X8_at F (by with_reducible assumption) fl_X8_124 dX8_has_36 ?_
      refine z_iload_n F dX8_has_39 rfl ?_
      refine z_zret F X dX8_has_40 (by decide) ?_
      refine ⟨?_, bI_t ⟨rfl, h_12⟩⟩
      rw [rdP, if_pos h_12, nI_1]
      exact R_8.at _
  · refine zCi_of J zm_X8_has [some (.ref (w.2.2 138)), some (.int c), none] (Nat.le_of_ble_eq_true rfl) rfl (fun g hg F X => ?_)
    subst hg
    rw [hsP_1] at X
    refine z_aload_n F dX8_has_0 rfl ?_
    refine zg_X8_wrong F (by with_reducible assumption) fl_X8_127 dX8_has_1 ?_
    try simp only [h12]
    refine z_if_ne (tgt := 19) F dX8_has_4 (by decide) (fun h_4 => ?_) (fun h_4 => absurd h_4 (by decide))
    refine z_iconst (v := 0) F dX8_has_19 (by decide) ?_
    refine z_istore_n (lv' := [_, _, _]) F dX8_has_20 (by decide) rfl rfl ?_
    refine z_aload_n F dX8_has_21 rfl ?_
    refine z_dup F dX8_has_22 rfl ?_
    refine zg_X8_at F (by with_reducible assumption) fl_X8_124 dX8_has_23 ?_
    simp only [h.2.1]
    refine z_iload_n F dX8_has_26 rfl ?_
    refine z_if_eq (tgt := 34) F dX8_has_27 (by decide) (fun h_27 => ?_) (fun h_27 => absurd h_27 (by decide))
    refine z_iconst (v := 0) F dX8_has_34 (by decide) ?_
    refine z_iadd F dX8_has_35 ?_
    refine zp_X8_at F (by with_reducible assumption) fl_X8_124 dX8_has_36 ?_
    refine z_iload_n F dX8_has_39 rfl ?_
    refine z_zret F X dX8_has_40 (by decide) ?_
    refine ⟨?_, bI_f (fun z => absurd z.1 (by decide))⟩
    rw [Int32.add_zero]
    exact h.at _
/-- the reference's way to read a number -/
def nmR (L : zF1) : Nat → Nat → Int32 → Int32 × Nat
  | 0, p, v => (v, p)
  | j + 1, p, v => if dgF (L p) then nmR L j (p + 1) (if 9999 < v then v else 10 * v + L p - 48) else (v, p)
abbrev nmQ (h a b : Nat) : Prop := a < 100000 ∧ ((b = a ∧ a ≤ h) ∨ (b = h + 1 ∧ h < a))
theorem dg_n {c : Int32} (h : dgF c) : ∃ d, d < 10 ∧ c = nI (48 + d) := by
  obtain ⟨j, hj, rfl⟩ := nI_of2 (M := 57) (n := 57) (x := c) (by decide) (fun z => by have := h.1; grind) h.2
  have := (nI_leI (a := 48) (b := j) (by decide) (by omega)).mp h.1
  exact ⟨j - 48, by omega, by rw [show 48 + (j - 48) = j by omega]⟩
theorem nm_rel {L : zF1} {h : Nat} (hh : h ≤ 99) : ∀ (j p a b : Nat), nmQ h a b → ∃ a' b' q, nmR L j p (nI a) = (nI a', q) ∧ nmP L (nI h) j p (nI b) = (nI b', q) ∧ nmQ h a' b' := by
  intro j
  induction j with
  | zero => intro p a b hq; exact ⟨a, b, p, rfl, rfl, hq⟩
  | succ j ih =>
    intro p a b hq
    rw [nmR, nmP]
    by_cases hd : dgF (L p)
    · rw [if_pos hd, if_pos hd]
      obtain ⟨d, hd10, e⟩ := dg_n hd
      rw [e]
      have e1 : (10 : Int32) * nI a + nI (48 + d) - 48 = nI (10 * a + d) := by
        rw [show (10 : Int32) * nI a = nI (10 * a) from pk_mul 10 a, nI_add, show (48 : Int32) = nI 48 from rfl, pk_sub (by omega), show 10 * a + (48 + d) - 48 = 10 * a + d by omega]
      have e2 : nI b * 10 + nI (48 + d) - 48 = nI (10 * b + d) := by
        rw [show nI b * (10 : Int32) = nI (b * 10) from pk_mul b 10, nI_add, show (48 : Int32) = nI 48 from rfl, pk_sub (by omega), show b * 10 + (48 + d) - 48 = 10 * b + d by omega]
      rw [e1, e2, nI_1]
      have q1 : (if (9999 : Int32) < nI a then nI a else nI (10 * a + d)) = nI (if 9999 < a then a else 10 * a + d) := by
        by_cases z : 9999 < a
        · rw [if_pos z, if_pos (show (9999 : Int32) < nI a from nI_lt (a := 9999) z (by omega))]
        · rw [if_neg z, if_neg (show ¬ (9999 : Int32) < nI a from fun z2 => z ((nI_ltI (a := 9999) (by decide) (by omega)).mp z2))]
      have q2 : (if nI (h + 1) < nI (10 * b + d) then nI (h + 1) else nI (10 * b + d)) = nI (if h + 1 < 10 * b + d then h + 1 else 10 * b + d) := by
        by_cases z : h + 1 < 10 * b + d
        · rw [if_pos z, if_pos (nI_lt z (by omega))]
        · rw [if_neg z, if_neg (fun z2 => z ((nI_ltI (by omega) (by omega)).mp z2))]
      rw [q1, q2]
      refine ih (p + 1) _ _ ?_
      obtain ⟨g1, g2⟩ := hq
      split <;> split <;> refine ⟨by omega, ?_⟩ <;> omega
    · rw [if_neg hd, if_neg hd]
      exact ⟨a, b, p, rfl, rfl, hq⟩
theorem p_number {l : Launch} {w : zE} (J : zJ w) {M0 M : zM} {p n m len h0 : Nat} {wr hi : Int32} {th pe : zF1} (h : RS M0 M p wr n m th pe) (hl : M0.1 138 10 = nI len) (h120 : len ≤ 120) (hp : p ≤ len) (h01 : wr = 0 ∨ wr = 1) (hhi : hi = nI h0) (hh : h0 ≤ 99) : zCi l w yX8_number cX8_number 4 (some .int) 1 [.ref (w.2.2 138), .int hi] M (fun r M2 => (wr = 1 ∧ RS M0 M2 p 1 n m th pe) ∨ (wr = 0 ∧ (numF (M0.1 142) len p hi).1 < 0 ∧ RS M0 M2 (numF (M0.1 142) len p hi).2 1 n m th pe) ∨ (wr = 0 ∧ ¬ (numF (M0.1 142) len p hi).1 < 0 ∧ RS M0 M2 (numF (M0.1 142) len p hi).2 0 n m th pe ∧ r = (numF (M0.1 142) len p hi).1)) := by
  have hk : zk 138 = 8 := by decide
  obtain ⟨hz1, hz2, hz3, hz4, hz5, hz6, hz7, hz8, hz9, hz10, hz11, hz12, hz13, hz14, hz15⟩ := zn8 (show 138 = 138 from rfl)
  have h12 := h.2.2.1
  subst hhi
  rcases h01 with rfl | rfl
  · refine zCi_of J zm_X8_number [some (.ref (w.2.2 138)), some (.int (nI h0)), none, none] (Nat.le_of_ble_eq_true rfl) rfl (fun g hg F X => ?_)
    subst hg
    have hqle := nxP_le (M0.1 142) (len - p) p
    generalize hL : M0.1 142 = L at X hqle
    generalize hq : nxP L (len - p) p = q0 at hqle
    have key : dgF (chF L len q0) → ∀ (j q : Nat) (v : Int32) (M' : zM), q + j = len → RS M0 M' q 0 n m th pe → nmR L j q v = nmR L (len - q0) q0 0 → ZW w g 4 38 [some (.ref (w.2.2 138)), some (.int (nI h0)), some (.int (nI q0)), some (.int v)] [] M' := by
      intro hdg
      obtain ⟨a', b', qe, n1, n2, n3, n4⟩ := nm_rel (L := L) hh (len - q0) q0 0 0 ⟨by decide, Or.inl ⟨rfl, by omega⟩⟩
      rw [show nI 0 = (0 : Int32) from rfl] at n1 n2
      have hfin : numF L len p (nI h0) = if nI h0 < nI b' then (-1, q0) else (nI b', qe) := by
        unfold numF
        rw [hq, if_pos hdg, n2]
      have fin : ∀ (v : Int32) (q : Nat) (M' : zM), (v, q) = nmR L (len - q0) q0 0 → RS M0 M' q 0 n m th pe → ZW w g 4 113 [some (.ref (w.2.2 138)), some (.int (nI h0)), some (.int (nI q0)), some (.int v)] [] M' := by
        intro v q M' hv R
        rw [n1] at hv
        obtain ⟨rfl, rfl⟩ := Prod.mk.inj hv
        refine z_aload_n F dX8_number_113 rfl ?_
        refine z_iload_n F dX8_number_114 rfl ?_
        refine z_iload_n F dX8_number_115 rfl ?_
        refine z_ic_le (tgt := 123) F dX8_number_116 (by decide) (fun h_116 => ?_) (fun h_116 => ?_)
        · refine z_iconst (v := 0) F dX8_number_123 (by decide) ?_
          refine zp_X8_wrong F (by with_reducible assumption) fl_X8_127 (by decide) (by decide) dX8_number_124 ?_
          refine z_aload_n F dX8_number_127 rfl ?_
          refine z_aload_n F dX8_number_128 rfl ?_
          refine zg_X8_wrong F (by with_reducible assumption) fl_X8_127 dX8_number_129 ?_
          try simp +decide only [zs_g, if_true, if_false, R.2.1]
          refine z_if_eq (tgt := 139) F dX8_number_132 (by decide) (fun h_132 => ?_) (fun h_132 => absurd h_132 (by decide))
          refine z_aload_n F dX8_number_139 rfl ?_
          refine zg_X8_at F (by with_reducible assumption) fl_X8_124 dX8_number_140 ?_
          try simp +decide only [zs_g, if_true, if_false, R.2.1]
          refine zp_X8_at F (by with_reducible assumption) fl_X8_124 dX8_number_143 ?_
          refine z_iload_n F dX8_number_146 rfl ?_
          refine z_iret F X dX8_number_147 ?_
          refine Or.inr (Or.inr ?_)
          have z := (nI_leI (by omega) (by omega)).mp h_116
          have e : nI h0 < nI b' ↔ False := ⟨fun y => by have := (nI_ltI (by omega) (by omega)).mp y; omega, False.elim⟩
          rw [hfin, if_neg e.mp]
          refine ⟨rfl, nI_pos (by omega), (R.wr 0).at _, ?_⟩
          rw [show a' = b' by omega]
        · refine z_iconst (v := 1) F dX8_number_119 (by decide) ?_
          refine z_goto (tgt := 124) F dX8_number_120 (by decide) ?_
          refine zp_X8_wrong F (by with_reducible assumption) fl_X8_127 (by decide) (by decide) dX8_number_124 ?_
          refine z_aload_n F dX8_number_127 rfl ?_
          refine z_aload_n F dX8_number_128 rfl ?_
          refine zg_X8_wrong F (by with_reducible assumption) fl_X8_127 dX8_number_129 ?_
          try simp +decide only [zs_g, if_true, if_false, R.2.1]
          refine z_if_eq (tgt := 139) F dX8_number_132 (by decide) (fun h_132 => absurd h_132 (by decide)) (fun h_132 => ?_)
          refine z_iload_n F dX8_number_135 rfl ?_
          refine z_goto (tgt := 143) F dX8_number_136 (by decide) ?_
          refine zp_X8_at F (by with_reducible assumption) fl_X8_124 dX8_number_143 ?_
          refine z_iload_n F dX8_number_146 rfl ?_
          refine z_iret F X dX8_number_147 ?_
          refine Or.inr (Or.inl ?_)
          have z := (nI_ltI (by omega) (by omega)).mp h_116
          rw [hfin, if_pos (nI_lt (by omega) (by omega))]
          exact ⟨rfl, (by decide : (-1 : Int32) < 0), (R.wr 1).at _⟩
      intro j
      induction j with
      | zero =>
        intro q v M' hqj R hs
        obtain rfl : q = len := by omega
        have c10 := R.len hl
        refine z_aload_n F dX8_number_38 rfl ?_
        refine zg_X8_at F (by with_reducible assumption) fl_X8_124 dX8_number_39 ?_
        try simp only [c10, R.2.1]
        refine z_aload_n F dX8_number_42 rfl ?_
        refine zg_X8_taped F (by with_reducible assumption) fl_X8_121 dX8_number_43 ?_
        try simp only [c10, R.2.1]
        refine z_ic_ge (tgt := 113) F dX8_number_46 (by decide) (fun h_46 => ?_) (fun h_46 => absurd h_46 (Int32.not_lt.mpr (Int32.le_refl _)))
        exact fin v q M' hs R
      | succ j ih =>
        intro q v M' hqj R hs
        have c10 := R.len hl
        have cL := R.L.trans hL
        rw [nmR] at hs
        refine z_aload_n F dX8_number_38 rfl ?_
        refine zg_X8_at F (by with_reducible assumption) fl_X8_124 dX8_number_39 ?_
        try simp only [c10, R.2.1, show M'.1 (138 + 4) = L from cL]
        refine z_aload_n F dX8_number_42 rfl ?_
        refine zg_X8_taped F (by with_reducible assumption) fl_X8_121 dX8_number_43 ?_
        try simp only [c10, R.2.1, show M'.1 (138 + 4) = L from cL]
        refine z_ic_ge (tgt := 113) F dX8_number_46 (by decide) (fun h_46 => absurd h_46 (Int32.not_le.mpr (nI_lt (by omega) (by omega)))) (fun h_46 => ?_)
        refine z_aload_n F dX8_number_49 rfl ?_
        refine zg_X8_tape F (by with_reducible assumption) fl_X8_19 dX8_number_50 (fun hk_50 => ?_)
        refine z_aload_n F dX8_number_53 rfl ?_
        refine zg_X8_at F (by with_reducible assumption) fl_X8_124 dX8_number_54 ?_
        try simp only [c10, R.2.1, show M'.1 (138 + 4) = L from cL]
        refine z_iald10n (q := q) F (by with_reducible assumption) (by first | with_reducible rfl | (simp only [n4, n2, n3, n5, n14, n16, na1, na2, na3, nI_add, nI_1, nI_pred]; done) | (simp only [n4, n2, n3, n5, n14, n16, na1, na2, na3, nI_add, nI_1, nI_pred, Nat.add_assoc, Nat.add_comm, Nat.add_left_comm]; done)) (by rw [hz4]; omega) dX8_number_57 ?_
        try simp only [c10, R.2.1, show M'.1 (138 + 4) = L from cL]
        refine z_i2l F dX8_number_58 ?_
        refine z_ldc2 F dX8_number_59 cl_X8_135 ?_
        refine z_ldc2 F dX8_number_62 cl_X8_137 ?_
        refine z_callSi F (d_X8_in J (a := 48) (b := 57) (by decide) (by decide)) zm_X8_in zst_X8_in ml_X8_72 rfl rfl (Nat.le_of_ble_eq_true rfl) dX8_number_65 (by omega) (fun r_65 M_65 h_65 => ?_)
        obtain ⟨e_65, rfl⟩ := h_65
        replace e_65 := Eq.symm e_65
        subst e_65
        refine z_if_eq (tgt := 113) F dX8_number_68 (by decide) (fun h_68 => ?_) (fun h_68 => ?_)
        · replace h_68 := bI_0.mp h_68
          try simp only [c10, R.2.1, show M'.1 (138 + 4) = L from cL] at h_68
          rw [if_neg h_68] at hs
          exact fin v q M' hs R
        · replace h_68 := bI_1.mp h_68
          try simp only [c10, R.2.1, show M'.1 (138 + 4) = L from cL] at h_68
          refine z_iload_n F dX8_number_71 rfl ?_
          refine z_sipush (v := 9999) F dX8_number_72 (by decide) ?_
          refine z_ic_le (tgt := 82) F dX8_number_75 (by decide) (fun h_75 => ?_) (fun h_75 => ?_)
          · try simp only [c10, R.2.1, show M'.1 (138 + 4) = L from cL] at h_75
            refine z_bipush (v := 10) F dX8_number_82 (by decide) ?_
            refine z_iload_n F dX8_number_84 rfl ?_
            refine z_imul F dX8_number_85 ?_
            refine z_aload_n F dX8_number_86 rfl ?_
            refine zg_X8_tape F (by with_reducible assumption) fl_X8_19 dX8_number_87 (fun hk_87 => ?_)
            refine z_aload_n F dX8_number_90 rfl ?_
            refine zg_X8_at F (by with_reducible assumption) fl_X8_124 dX8_number_91 ?_
            try simp only [c10, R.2.1, show M'.1 (138 + 4) = L from cL]
            refine z_iald10n (q := q) F (by with_reducible assumption) (by first | with_reducible rfl | (simp only [n4, n2, n3, n5, n14, n16, na1, na2, na3, nI_add, nI_1, nI_pred]; done) | (simp only [n4, n2, n3, n5, n14, n16, na1, na2, na3, nI_add, nI_1, nI_pred, Nat.add_assoc, Nat.add_comm, Nat.add_left_comm]; done)) (by rw [hz4]; omega) dX8_number_94 ?_
            try simp only [c10, R.2.1, show M'.1 (138 + 4) = L from cL]
            refine z_iadd F dX8_number_95 ?_
            refine z_bipush (v := 48) F dX8_number_96 (by decide) ?_
            refine z_isub F dX8_number_98 ?_
            refine z_istore_n (lv' := [_, _, _, _]) F dX8_number_99 (by decide) rfl rfl ?_
            refine z_aload_n F dX8_number_100 rfl ?_
            refine z_dup F dX8_number_101 rfl ?_
            refine zg_X8_at F (by with_reducible assumption) fl_X8_124 dX8_number_102 ?_
            try simp only [c10, R.2.1, show M'.1 (138 + 4) = L from cL]
            refine z_iconst (v := 1) F dX8_number_105 (by decide) ?_
            refine z_iadd F dX8_number_106 ?_
            refine zp_X8_at F (by with_reducible assumption) fl_X8_124 dX8_number_107 ?_
            refine z_goto (tgt := 38) F dX8_number_110 (by decide) ?_
            rw [if_pos h_68, if_neg (nlt h_75)] at hs
            rw [nI_1]
            exact ih (q + 1) _ _ (by omega) (R.at _) hs
          · try simp only [c10, R.2.1, show M'.1 (138 + 4) = L from cL] at h_75
            refine z_iload_n F dX8_number_78 rfl ?_
            refine z_goto (tgt := 99) F dX8_number_79 (by decide) ?_
            refine z_istore_n (lv' := [_, _, _, _]) F dX8_number_99 (by decide) rfl rfl ?_
            refine z_aload_n F dX8_number_100 rfl ?_
            refine z_dup F dX8_number_101 rfl ?_
            refine zg_X8_at F (by with_reducible assumption) fl_X8_124 dX8_number_102 ?_
            try simp only [c10, R.2.1, show M'.1 (138 + 4) = L from cL]
            refine z_iconst (v := 1) F dX8_number_105 (by decide) ?_
            refine z_iadd F dX8_number_106 ?_
            refine zp_X8_at F (by with_reducible assumption) fl_X8_124 dX8_number_107 ?_
            refine z_goto (tgt := 38) F dX8_number_110 (by decide) ?_
            rw [if_pos h_68, if_pos h_75] at hs
            rw [nI_1]
            exact ih (q + 1) _ _ (by omega) (R.at _) hs
    refine z_aload_n F dX8_number_0 rfl ?_
    refine zg_X8_wrong F (by with_reducible assumption) fl_X8_127 dX8_number_1 ?_
    try simp only [h12]
    refine z_if_ne (tgt := 24) F dX8_number_4 (by decide) (fun h_4 => absurd h_4 (by decide)) (fun h_4 => ?_)
    refine z_aload_n F dX8_number_7 rfl ?_
    refine z_callVi F (p_here J h hl h120 hp) zm_X8_here zv_X8_here ml_X8_131 (by with_reducible assumption) (by decide) rfl rfl rfl (Nat.le_of_ble_eq_true rfl) dX8_number_8 (by omega) (fun r_8 M_8 h_8 => ?_)
    obtain ⟨R_8, e_8⟩ := h_8
    rw [hL, hq] at R_8 e_8
    subst e_8
    refine z_i2l F dX8_number_11 ?_
    refine z_ldc2 F dX8_number_12 cl_X8_135 ?_
    refine z_ldc2 F dX8_number_15 cl_X8_137 ?_
    refine z_callSi F (d_X8_in J (a := 48) (b := 57) (by decide) (by decide)) zm_X8_in zst_X8_in ml_X8_72 rfl rfl (Nat.le_of_ble_eq_true rfl) dX8_number_18 (by omega) (fun r_18 M_18 h_18 => ?_)
    obtain ⟨e_18, rfl⟩ := h_18
    replace e_18 := Eq.symm e_18
    subst e_18
    refine z_if_ne (tgt := 31) F dX8_number_21 (by decide) (fun h_21 => ?_) (fun h_21 => ?_)
    · replace h_21 := bI_1.mp h_21
      try simp only [h12] at h_21
      refine z_aload_n F dX8_number_31 rfl ?_
      refine zg_X8_at F (by with_reducible assumption) fl_X8_124 dX8_number_32 ?_
      simp only [R_8.2.1]
      refine z_istore_n (lv' := [_, _, _, _]) F dX8_number_35 (by decide) rfl rfl ?_
      refine z_iconst (v := 0) F dX8_number_36 (by decide) ?_
      refine z_istore_n (lv' := [_, _, _, _]) F dX8_number_37 (by decide) rfl rfl ?_
      exact key h_21 (len - q0) q0 0 _ (by omega) R_8 rfl
    · replace h_21 := bI_0.mp h_21
      try simp only [h12] at h_21
      refine z_aload_n F dX8_number_24 rfl ?_
      refine z_iconst (v := 1) F dX8_number_25 (by decide) ?_
      refine zp_X8_wrong F (by with_reducible assumption) fl_X8_127 (by decide) (by decide) dX8_number_26 ?_
      refine z_iconst (v := 0) F dX8_number_29 (by decide) ?_
      refine z_iret F X dX8_number_30 ?_
      have e : numF L len p (nI h0) = (-1, q0) := by unfold numF; rw [hq, if_neg h_21]
      rw [e]
      exact Or.inr (Or.inl ⟨rfl, (by decide : (-1 : Int32) < 0), R_8.wr 1⟩)
  · refine zCi_post (fun v M2 q => ?_) (c_X8_number0 J h12)
    obtain ⟨rfl, rfl⟩ := q
    exact Or.inl ⟨rfl, h.wr 1⟩
end
section
/-! a thing, a person, what is had, as the reference reads them -/
def nuW (L : zF1) (len : Nat) (wr : Int32) (p : Nat) (hi : Int32) : Int32 := if wr = 0 ∧ ¬ (numF L len p hi).1 < 0 then 0 else 1
def nuP (L : zF1) (len : Nat) (wr : Int32) (p : Nat) (hi : Int32) : Nat := if wr = 0 then (numF L len p hi).2 else p
def opW (L : zF1) (len : Nat) (wr : Int32) (p : Nat) (c hi : Int32) : Int32 := if hsB L len wr p c then nuW L len wr (hsP L len wr p c) hi else wr
def opP (L : zF1) (len : Nat) (wr : Int32) (p : Nat) (c hi : Int32) : Nat := if hsB L len wr p c then nuP L len wr (hsP L len wr p c) hi else hsP L len wr p c
theorem nuW_01 (L : zF1) (len : Nat) (wr : Int32) (p : Nat) (hi : Int32) : nuW L len wr p hi = 0 ∨ nuW L len wr p hi = 1 := by unfold nuW; split <;> simp
theorem nuP_le {L : zF1} {len : Nat} {wr : Int32} {p : Nat} {hi : Int32} (h : p ≤ len) : nuP L len wr p hi ≤ len := by unfold nuP; split; exact numF_le h; exact h
theorem hsP_le {L : zF1} {len : Nat} {wr : Int32} {p : Nat} {c : Int32} (h : p ≤ len) (hc : ¬ c = 0) : hsP L len wr p c ≤ len := by unfold hsP; split; exact rdP_le h hc; exact h
theorem opP_le {L : zF1} {len : Nat} {wr : Int32} {p : Nat} {c hi : Int32} (h : p ≤ len) (hc : ¬ c = 0) : opP L len wr p c hi ≤ len := by unfold opP; split; exact nuP_le (hsP_le h hc); exact hsP_le h hc
theorem opW_01 (L : zF1) (len : Nat) {wr : Int32} (p : Nat) (c hi : Int32) (h : wr = 0 ∨ wr = 1) : opW L len wr p c hi = 0 ∨ opW L len wr p c hi = 1 := by unfold opW; split; exact nuW_01 _ _ _ _ _; exact h
theorem nuW_1 (L : zF1) (len p : Nat) (hi : Int32) : nuW L len 1 p hi = 1 := if_neg (fun z => absurd z.1 (by decide))
theorem nuP_1 (L : zF1) (len p : Nat) (hi : Int32) : nuP L len 1 p hi = p := if_neg (by decide)
theorem nuW_f {L : zF1} {len p : Nat} {hi : Int32} (h : (numF L len p hi).1 < 0) : nuW L len 0 p hi = 1 := if_neg (fun z => z.2 h)
theorem nuW_t {L : zF1} {len p : Nat} {hi : Int32} (h : ¬ (numF L len p hi).1 < 0) : nuW L len 0 p hi = 0 := if_pos ⟨rfl, h⟩
theorem nuP_0 (L : zF1) (len p : Nat) (hi : Int32) : nuP L len 0 p hi = (numF L len p hi).2 := if_pos rfl
theorem opW_1 (L : zF1) (len p : Nat) (c hi : Int32) : opW L len 1 p c hi = 1 := if_neg (fun z => absurd z.1 (by decide))
theorem opP_1 (L : zF1) (len p : Nat) (c hi : Int32) : opP L len 1 p c hi = p := by unfold opP; rw [if_neg (fun z => absurd z.1 (by decide)), hsP_1]
theorem opP_0 (L : zF1) (len p : Nat) (c hi : Int32) : opP L len 0 p c hi = (optF L len p c hi).2 := by
  unfold opP optF
  by_cases h : rdB L len p c
  · rw [if_pos ⟨rfl, h⟩, if_pos h, hsP_0, nuP_0]
  · rw [if_neg (fun z => h z.2), if_neg h, hsP_0]
theorem opW_f {L : zF1} {len p : Nat} {c hi : Int32} (q : (optF L len p c hi).1 < 0) : opW L len 0 p c hi = 1 := by
  unfold opW
  unfold optF at q
  by_cases h : rdB L len p c
  · rw [if_pos h] at q
    rw [if_pos ⟨rfl, h⟩, hsP_0, nuW_f q]
  · rw [if_neg h] at q
    exact absurd q (by show ¬ (0 : Int32) < 0; decide)
theorem opW_t {L : zF1} {len p : Nat} {c hi : Int32} (q : ¬ (optF L len p c hi).1 < 0) : opW L len 0 p c hi = 0 := by
  unfold opW
  unfold optF at q
  by_cases h : rdB L len p c
  · rw [if_pos h] at q
    rw [if_pos ⟨rfl, h⟩, hsP_0, nuW_t q]
  · rw [if_neg (fun z => h z.2)]
theorem p_numW {l : Launch} {w : zE} (J : zJ w) {M0 M : zM} {p n m len h0 : Nat} {wr hi : Int32} {th pe : zF1} (h : RS M0 M p wr n m th pe) (hl : M0.1 138 10 = nI len) (h120 : len ≤ 120) (hp : p ≤ len) (h01 : wr = 0 ∨ wr = 1) (hhi : hi = nI h0) (hh : h0 ≤ 99) : zCi l w yX8_number cX8_number 4 (some .int) 1 [.ref (w.2.2 138), .int hi] M (fun r M2 => RS M0 M2 (nuP (M0.1 142) len wr p hi) (nuW (M0.1 142) len wr p hi) n m th pe ∧ (nuW (M0.1 142) len wr p hi = 0 → r = (numF (M0.1 142) len p hi).1)) := by
  refine zCi_post (fun v M2 q => ?_) (p_number J h hl h120 hp h01 hhi hh)
  rcases q with ⟨rfl, R⟩ | ⟨rfl, z, R⟩ | ⟨rfl, z, R, e⟩
  · rw [nuW_1, nuP_1]; exact ⟨R, fun z => absurd z (by decide)⟩
  · rw [nuW_f z, nuP_0]; exact ⟨R, fun z => absurd z (by decide)⟩
  · rw [nuW_t z, nuP_0]; exact ⟨R, fun _ => e⟩
theorem thi_end {L : zF1} {len p q1 : Nat} {wr kd : Int32} (h : wr = 1 ∧ (thiF L len p).1 = 0 ∧ (thiF L len p).2.1 = q1 ∨ wr = 0 ∧ kd = kndF (chF L len (nxP L (len - p) p)) ∧ ¬ kd < 0 ∧ q1 = nxP L (len - p) p + 1) :
    ((thiF L len p).1 = 0 ∧ opW L len (opW L len (nuW L len wr q1 99) (nuP L len wr q1 99) 108 30) (opP L len (nuW L len wr q1 99) (nuP L len wr q1 99) 108 30) 99 30 = 1 ∧ opP L len (opW L len (nuW L len wr q1 99) (nuP L len wr q1 99) 108 30) (opP L len (nuW L len wr q1 99) (nuP L len wr q1 99) 108 30) 99 30 = (thiF L len p).2.1)
    ∨ (¬ (thiF L len p).1 = 0 ∧ nuW L len wr q1 99 = 0 ∧ opW L len (nuW L len wr q1 99) (nuP L len wr q1 99) 108 30 = 0 ∧ opW L len (opW L len (nuW L len wr q1 99) (nuP L len wr q1 99) 108 30) (opP L len (nuW L len wr q1 99) (nuP L len wr q1 99) 108 30) 99 30 = 0 ∧ opP L len (opW L len (nuW L len wr q1 99) (nuP L len wr q1 99) 108 30) (opP L len (nuW L len wr q1 99) (nuP L len wr q1 99) 108 30) 99 30 = (thiF L len p).2.1
      ∧ (thiF L len p).2.2 = (kd, (numF L len q1 99).1, (optF L len (nuP L len wr q1 99) 108 30).1, (optF L len (opP L len (nuW L len wr q1 99) (nuP L len wr q1 99) 108 30) 99 30).1)) := by
  rcases h with ⟨rfl, h1, h2⟩ | ⟨rfl, hkd, hk, hq⟩
  · rw [nuW_1, nuP_1, opW_1, opP_1, opW_1, opP_1]
    exact Or.inl ⟨h1, rfl, h2.symm⟩
  · unfold thiF
    rw [← hkd, ← hq, if_neg hk, nuP_0]
    by_cases z1 : (numF L len q1 99).1 < 0
    · rw [if_pos z1, nuW_f z1, opW_1, opP_1, opW_1, opP_1]
      exact Or.inl ⟨rfl, rfl, rfl⟩
    · rw [if_neg z1, nuW_t z1, opP_0]
      by_cases z2 : (optF L len (numF L len q1 99).2 108 30).1 < 0
      · rw [if_pos z2, opW_f z2, opW_1, opP_1]
        exact Or.inl ⟨rfl, rfl, rfl⟩
      · rw [if_neg z2, opW_t z2, opP_0]
        by_cases z3 : (optF L len (optF L len (numF L len q1 99).2 108 30).2 99 30).1 < 0
        · rw [if_pos z3, opW_f z3]
          exact Or.inl ⟨rfl, rfl, rfl⟩
        · rw [if_neg z3, opW_t z3]
          exact Or.inr ⟨by show ¬ (1 : Int32) = 0; decide, rfl, rfl, rfl, rfl, rfl⟩
theorem knd_m {c : Int32} : kndF c < 0 ↔ ¬ c = 112 ∧ ¬ c = 98 ∧ ¬ c = 117 ∧ ¬ c = 109 := by
  unfold kndF
  by_cases h1 : c = 112
  · rw [if_pos h1]; exact ⟨fun z => absurd z (by decide), fun z => absurd h1 z.1⟩
  rw [if_neg h1]
  by_cases h2 : c = 98
  · rw [if_pos h2]; exact ⟨fun z => absurd z (by decide), fun z => absurd h2 z.2.1⟩
  rw [if_neg h2]
  by_cases h3 : c = 117
  · rw [if_pos h3]; exact ⟨fun z => absurd z (by decide), fun z => absurd h3 z.2.2.1⟩
  rw [if_neg h3]
  by_cases h4 : c = 109
  · rw [if_pos h4]; exact ⟨fun z => absurd z (by decide), fun z => absurd h4 z.2.2.2⟩
  rw [if_neg h4]
  exact ⟨fun _ => ⟨h1, h2, h3, h4⟩, fun _ => by decide⟩
theorem p_readThing {l : Launch} {w : zE} (J : zJ w) {M0 M : zM} {p n m len : Nat} {th pe : zF1} (h : RS M0 M p 0 n m th pe) (hl : M0.1 138 10 = nI len) (h120 : len ≤ 120) (hp : p ≤ len) (hn : n < 10) : zCv l w yX8_readThing cX8_readThing 3 2 [.ref (w.2.2 138)] M (fun M2 => ((thiF (M0.1 142) len p).1 = 0 ∧ ∃ th', RS M0 M2 (thiF (M0.1 142) len p).2.1 1 (n + 1) m th' pe) ∨ (¬ (thiF (M0.1 142) len p).1 = 0 ∧ RS M0 M2 (thiF (M0.1 142) len p).2.1 0 (n + 1) m (setF th n (thiF (M0.1 142) len p).2.2.1 (thiF (M0.1 142) len p).2.2.2.1 (thiF (M0.1 142) len p).2.2.2.2.1 (thiF (M0.1 142) len p).2.2.2.2.2) pe)) := by
  have hk : zk 138 = 8 := by decide
  obtain ⟨hz1, hz2, hz3, hz4, hz5, hz6, hz7, hz8, hz9, hz10, hz11, hz12, hz13, hz14, hz15⟩ := zn8 (show 138 = 138 from rfl)
  refine zCv_of J zm_X8_readThing [some (.ref (w.2.2 138)), none, none] (Nat.le_of_ble_eq_true rfl) rfl (fun g hg F X => ?_)
  subst hg
  have hx := nxP_le (M0.1 142) (len - p) p
  have tail : ∀ (wr kd hv : Int32) (q1 : Nat) (M1 : zM), RS M0 M1 q1 wr n m (va_up th (4 * n) kd) pe → q1 ≤ len → (wr = 1 ∧ (thiF (M0.1 142) len p).1 = 0 ∧ (thiF (M0.1 142) len p).2.1 = q1 ∨ wr = 0 ∧ kd = kndF (chF (M0.1 142) len (nxP (M0.1 142) (len - p) p)) ∧ ¬ kd < 0 ∧ q1 = nxP (M0.1 142) (len - p) p + 1) → ZW w g 3 121 [some (.ref (w.2.2 138)), some (.int (nI (4 * n))), some (.int hv)] [] M1 := by
    intro wr kd hv q1 M1 R1 hq1 hyp
    have h01 : wr = 0 ∨ wr = 1 := hyp.elim (fun z => Or.inr z.1) (fun z => Or.inl z.1)
    have te := thi_end hyp
    generalize hW1 : nuW (M0.1 142) len wr q1 99 = W1 at te
    generalize hP1 : nuP (M0.1 142) len wr q1 99 = P1 at te
    have w1 : W1 = 0 ∨ W1 = 1 := hW1 ▸ nuW_01 _ _ _ _ _
    have l1 : P1 ≤ len := hP1 ▸ nuP_le hq1
    generalize hW2 : opW (M0.1 142) len W1 P1 108 30 = W2 at te
    generalize hP2 : opP (M0.1 142) len W1 P1 108 30 = P2 at te
    have w2 : W2 = 0 ∨ W2 = 1 := hW2 ▸ opW_01 _ _ _ _ _ w1
    have l2 : P2 ≤ len := hP2 ▸ opP_le l1 (by decide)
    refine z_aload_n F dX8_readThing_121 rfl ?_
    refine zg_X8_readThings F (by with_reducible assumption) fl_X8_22 dX8_readThing_122 (fun hk_122 => ?_)
    refine z_iload_n F dX8_readThing_125 rfl ?_
    refine z_iconst (v := 1) F dX8_readThing_126 (by decide) ?_
    refine z_iadd F dX8_readThing_127 ?_
    refine z_aload_n F dX8_readThing_128 rfl ?_
    refine z_bipush (v := 99) F dX8_readThing_129 (by decide) ?_
    refine z_callVi F (p_numW J (h0 := 99) (hi := 99) R1 hl h120 hq1 h01 rfl (by decide)) zm_X8_number zv_X8_number ml_X8_142 (by with_reducible assumption) (by decide) rfl rfl rfl (Nat.le_of_ble_eq_true rfl) dX8_readThing_131 (by omega) (fun r_131 M_131 h_131 => ?_)
    obtain ⟨R_131, e_131⟩ := h_131
    rw [hW1, hP1] at R_131
    rw [hW1] at e_131
    refine z_iast10n (q := ((4*n) + 1)) F (by with_reducible assumption) (by first | with_reducible rfl | (simp only [n4, n2, n3, n5, n14, n16, na1, na2, na3, nI_add, nI_1, nI_pred]; done) | (simp only [n4, n2, n3, n5, n14, n16, na1, na2, na3, nI_add, nI_1, nI_pred, Nat.add_assoc, Nat.add_comm, Nat.add_left_comm]; done)) (by rw [hz5]; omega) dX8_readThing_134 ?_
    refine z_aload_n F dX8_readThing_135 rfl ?_
    refine zg_X8_readThings F (by with_reducible assumption) fl_X8_22 dX8_readThing_136 (fun hk_136 => ?_)
    refine z_iload_n F dX8_readThing_139 rfl ?_
    refine z_iconst (v := 2) F dX8_readThing_140 (by decide) ?_
    refine z_iadd F dX8_readThing_141 ?_
    refine z_aload_n F dX8_readThing_142 rfl ?_
    refine z_bipush (v := 108) F dX8_readThing_143 (by decide) ?_
    refine z_callVi F (p_has J (R_131.th (4 * n + 1) r_131) hl h120 l1 w1) zm_X8_has zv_X8_has ml_X8_145 (by with_reducible assumption) (by decide) rfl rfl rfl (Nat.le_of_ble_eq_true rfl) dX8_readThing_145 (by omega) (fun r_145 M_145 h_145 => ?_)
    obtain ⟨R_145, e_145⟩ := h_145
    subst e_145
    refine z_if_eq (tgt := 160) F dX8_readThing_148 (by decide) (fun h_148 => ?_) (fun h_148 => ?_)
    · replace h_148 := bI_0.mp h_148
      refine z_iconst (v := 0) F dX8_readThing_160 (by decide) ?_
      refine z_iast10n (q := ((4*n) + 2)) F (by with_reducible assumption) (by first | with_reducible rfl | (simp only [n4, n2, n3, n5, n14, n16, na1, na2, na3, nI_add, nI_1, nI_pred]; done) | (simp only [n4, n2, n3, n5, n14, n16, na1, na2, na3, nI_add, nI_1, nI_pred, Nat.add_assoc, Nat.add_comm, Nat.add_left_comm]; done)) (by rw [hz5]; omega) dX8_readThing_161 ?_
      refine ZW_gen (fun M2 => ∃ v2, RS M0 M2 P2 W2 n m (va_up (va_up (va_up th (4 * n) kd) (4 * n + 1) r_131) (4 * n + 2) v2) pe ∧ (W2 = 0 → v2 = (optF (M0.1 142) len P1 108 30).1)) ?_ (fun M2 ⟨v2, R2, e2⟩ => ?_)
      · refine ⟨0, ?_, fun z => ?_⟩
        · rw [← hW2, ← hP2, opP, opW, if_neg h_148, if_neg h_148]
          exact R_145.th _ _
        · rw [optF, if_neg (fun y => h_148 ⟨?_, y⟩)]
          rw [← hW2, opW, if_neg h_148] at z
          exact z
      refine z_aload_n F dX8_readThing_162 rfl ?_
      refine zg_X8_readThings F (by with_reducible assumption) fl_X8_22 dX8_readThing_163 (fun hk_163 => ?_)
      refine z_iload_n F dX8_readThing_166 rfl ?_
      refine z_iconst (v := 3) F dX8_readThing_167 (by decide) ?_
      refine z_iadd F dX8_readThing_168 ?_
      refine z_aload_n F dX8_readThing_169 rfl ?_
      refine z_bipush (v := 99) F dX8_readThing_170 (by decide) ?_
      refine z_callVi F (p_has J R2 hl h120 l2 w2) zm_X8_has zv_X8_has ml_X8_145 (by with_reducible assumption) (by decide) rfl rfl rfl (Nat.le_of_ble_eq_true rfl) dX8_readThing_172 (by omega) (fun r_172 M_172 h_172 => ?_)
      obtain ⟨R_172, e_172⟩ := h_172
      subst e_172
      refine z_if_eq (tgt := 187) F dX8_readThing_175 (by decide) (fun h_175 => ?_) (fun h_175 => ?_)
      · replace h_175 := bI_0.mp h_175
        refine z_iconst (v := 0) F dX8_readThing_187 (by decide) ?_
        refine z_iast10n (q := ((4*n) + 3)) F (by with_reducible assumption) (by first | with_reducible rfl | (simp only [n4, n2, n3, n5, n14, n16, na1, na2, na3, nI_add, nI_1, nI_pred]; done) | (simp only [n4, n2, n3, n5, n14, n16, na1, na2, na3, nI_add, nI_1, nI_pred, Nat.add_assoc, Nat.add_comm, Nat.add_left_comm]; done)) (by rw [hz5]; omega) dX8_readThing_188 ?_
        refine ZW_gen (fun M3 => ∃ v3, RS M0 M3 (opP (M0.1 142) len W2 P2 99 30) (opW (M0.1 142) len W2 P2 99 30) n m (va_up (va_up (va_up (va_up th (4 * n) kd) (4 * n + 1) r_131) (4 * n + 2) v2) (4 * n + 3) v3) pe ∧ (opW (M0.1 142) len W2 P2 99 30 = 0 → v3 = (optF (M0.1 142) len P2 99 30).1)) ?_ (fun M3 ⟨v3, R3, e3⟩ => ?_)
        · refine ⟨0, ?_, fun z => ?_⟩
          · rw [opP, opW, if_neg h_175, if_neg h_175]
            exact R_172.th _ _
          · rw [optF, if_neg (fun y => h_175 ⟨?_, y⟩)]
            rw [opW, if_neg h_175] at z
            exact z
        refine z_aload_n F dX8_readThing_189 rfl ?_
        refine z_dup F dX8_readThing_190 rfl ?_
        refine zg_X8_manyThings F (by with_reducible assumption) fl_X8_139 dX8_readThing_191 ?_
        rw [R3.2.2.2.1]
        refine z_iconst (v := 1) F dX8_readThing_194 (by decide) ?_
        refine z_iadd F dX8_readThing_195 ?_
        refine zp_X8_manyThings F (by with_reducible assumption) fl_X8_139 dX8_readThing_196 ?_
        refine z_vret F X dX8_readThing_199 ?_
        rw [nI_1]
        have R4 := R3.mt (n + 1)
        rcases te with ⟨t1, t2, t3⟩ | ⟨t1, t2, t3, t4, t5, t6⟩
        · rw [t2, t3] at R4
          exact Or.inl ⟨t1, _, R4⟩
        · have e3' := e3 t4
          rw [t4, t5] at R4
          have e2' := e2 t3
          have e1' := e_131 t2
          rw [e1', e2', e3'] at R4
          refine Or.inr ⟨t1, ?_⟩
          rw [t6]
          exact R4
      · replace h_175 := bI_1.mp h_175
        refine z_aload_n F dX8_readThing_178 rfl ?_
        refine z_bipush (v := 30) F dX8_readThing_179 (by decide) ?_
        refine z_callVi F (p_numW J (h0 := 30) (hi := 30) R_172 hl h120 (hsP_le l2 (by decide)) w2 rfl (by decide)) zm_X8_number zv_X8_number ml_X8_142 (by with_reducible assumption) (by decide) rfl rfl rfl (Nat.le_of_ble_eq_true rfl) dX8_readThing_181 (by omega) (fun r_181 M_181 h_181 => ?_)
        obtain ⟨R_181, e_181⟩ := h_181
        refine z_goto (tgt := 188) F dX8_readThing_184 (by decide) ?_
        refine z_iast10n (q := ((4*n) + 3)) F (by with_reducible assumption) (by first | with_reducible rfl | (simp only [n4, n2, n3, n5, n14, n16, na1, na2, na3, nI_add, nI_1, nI_pred]; done) | (simp only [n4, n2, n3, n5, n14, n16, na1, na2, na3, nI_add, nI_1, nI_pred, Nat.add_assoc, Nat.add_comm, Nat.add_left_comm]; done)) (by rw [hz5]; omega) dX8_readThing_188 ?_
        refine ZW_gen (fun M3 => ∃ v3, RS M0 M3 (opP (M0.1 142) len W2 P2 99 30) (opW (M0.1 142) len W2 P2 99 30) n m (va_up (va_up (va_up (va_up th (4 * n) kd) (4 * n + 1) r_131) (4 * n + 2) v2) (4 * n + 3) v3) pe ∧ (opW (M0.1 142) len W2 P2 99 30 = 0 → v3 = (optF (M0.1 142) len P2 99 30).1)) ?_ (fun M3 ⟨v3, R3, e3⟩ => ?_)
        · obtain ⟨z1, z2⟩ := h_175
          refine ⟨r_181, ?_, fun z => ?_⟩
          · rw [opP, opW, if_pos ⟨z1, z2⟩, if_pos ⟨z1, z2⟩]
            exact R_181.th _ _
          · rw [opW, if_pos ⟨z1, z2⟩] at z
            rw [optF, if_pos z2, e_181 z, hsP, if_pos z1]
        refine z_aload_n F dX8_readThing_189 rfl ?_
        refine z_dup F dX8_readThing_190 rfl ?_
        refine zg_X8_manyThings F (by with_reducible assumption) fl_X8_139 dX8_readThing_191 ?_
        rw [R3.2.2.2.1]
        refine z_iconst (v := 1) F dX8_readThing_194 (by decide) ?_
        refine z_iadd F dX8_readThing_195 ?_
        refine zp_X8_manyThings F (by with_reducible assumption) fl_X8_139 dX8_readThing_196 ?_
        refine z_vret F X dX8_readThing_199 ?_
        rw [nI_1]
        have R4 := R3.mt (n + 1)
        rcases te with ⟨t1, t2, t3⟩ | ⟨t1, t2, t3, t4, t5, t6⟩
        · rw [t2, t3] at R4
          exact Or.inl ⟨t1, _, R4⟩
        · have e3' := e3 t4
          rw [t4, t5] at R4
          have e2' := e2 t3
          have e1' := e_131 t2
          rw [e1', e2', e3'] at R4
          refine Or.inr ⟨t1, ?_⟩
          rw [t6]
          exact R4
    · replace h_148 := bI_1.mp h_148
      refine z_aload_n F dX8_readThing_151 rfl ?_
      refine z_bipush (v := 30) F dX8_readThing_152 (by decide) ?_
      refine z_callVi F (p_numW J (h0 := 30) (hi := 30) R_145 hl h120 (hsP_le l1 (by decide)) w1 rfl (by decide)) zm_X8_number zv_X8_number ml_X8_142 (by with_reducible assumption) (by decide) rfl rfl rfl (Nat.le_of_ble_eq_true rfl) dX8_readThing_154 (by omega) (fun r_154 M_154 h_154 => ?_)
      obtain ⟨R_154, e_154⟩ := h_154
      refine z_goto (tgt := 161) F dX8_readThing_157 (by decide) ?_
      refine z_iast10n (q := ((4*n) + 2)) F (by with_reducible assumption) (by first | with_reducible rfl | (simp only [n4, n2, n3, n5, n14, n16, na1, na2, na3, nI_add, nI_1, nI_pred]; done) | (simp only [n4, n2, n3, n5, n14, n16, na1, na2, na3, nI_add, nI_1, nI_pred, Nat.add_assoc, Nat.add_comm, Nat.add_left_comm]; done)) (by rw [hz5]; omega) dX8_readThing_161 ?_
      refine ZW_gen (fun M2 => ∃ v2, RS M0 M2 P2 W2 n m (va_up (va_up (va_up th (4 * n) kd) (4 * n + 1) r_131) (4 * n + 2) v2) pe ∧ (W2 = 0 → v2 = (optF (M0.1 142) len P1 108 30).1)) ?_ (fun M2 ⟨v2, R2, e2⟩ => ?_)
      · obtain ⟨z1, z2⟩ := h_148
        refine ⟨r_154, ?_, fun z => ?_⟩
        · rw [← hW2, ← hP2, opP, opW, if_pos ⟨z1, z2⟩, if_pos ⟨z1, z2⟩]
          exact R_154.th _ _
        · rw [← hW2, opW, if_pos ⟨z1, z2⟩] at z
          rw [optF, if_pos z2, e_154 z, hsP, if_pos z1]
      refine z_aload_n F dX8_readThing_162 rfl ?_
      refine zg_X8_readThings F (by with_reducible assumption) fl_X8_22 dX8_readThing_163 (fun hk_163 => ?_)
      refine z_iload_n F dX8_readThing_166 rfl ?_
      refine z_iconst (v := 3) F dX8_readThing_167 (by decide) ?_
      refine z_iadd F dX8_readThing_168 ?_
      refine z_aload_n F dX8_readThing_169 rfl ?_
      refine z_bipush (v := 99) F dX8_readThing_170 (by decide) ?_
      refine z_callVi F (p_has J R2 hl h120 l2 w2) zm_X8_has zv_X8_has ml_X8_145 (by with_reducible assumption) (by decide) rfl rfl rfl (Nat.le_of_ble_eq_true rfl) dX8_readThing_172 (by omega) (fun r_172 M_172 h_172 => ?_)
      obtain ⟨R_172, e_172⟩ := h_172
      subst e_172
      refine z_if_eq (tgt := 187) F dX8_readThing_175 (by decide) (fun h_175 => ?_) (fun h_175 => ?_)
      · replace h_175 := bI_0.mp h_175
        refine z_iconst (v := 0) F dX8_readThing_187 (by decide) ?_
        refine z_iast10n (q := ((4*n) + 3)) F (by with_reducible assumption) (by first | with_reducible rfl | (simp only [n4, n2, n3, n5, n14, n16, na1, na2, na3, nI_add, nI_1, nI_pred]; done) | (simp only [n4, n2, n3, n5, n14, n16, na1, na2, na3, nI_add, nI_1, nI_pred, Nat.add_assoc, Nat.add_comm, Nat.add_left_comm]; done)) (by rw [hz5]; omega) dX8_readThing_188 ?_
        refine ZW_gen (fun M3 => ∃ v3, RS M0 M3 (opP (M0.1 142) len W2 P2 99 30) (opW (M0.1 142) len W2 P2 99 30) n m (va_up (va_up (va_up (va_up th (4 * n) kd) (4 * n + 1) r_131) (4 * n + 2) v2) (4 * n + 3) v3) pe ∧ (opW (M0.1 142) len W2 P2 99 30 = 0 → v3 = (optF (M0.1 142) len P2 99 30).1)) ?_ (fun M3 ⟨v3, R3, e3⟩ => ?_)
        · refine ⟨0, ?_, fun z => ?_⟩
          · rw [opP, opW, if_neg h_175, if_neg h_175]
            exact R_172.th _ _
          · rw [optF, if_neg (fun y => h_175 ⟨?_, y⟩)]
            rw [opW, if_neg h_175] at z
            exact z
        refine z_aload_n F dX8_readThing_189 rfl ?_
        refine z_dup F dX8_readThing_190 rfl ?_
        refine zg_X8_manyThings F (by with_reducible assumption) fl_X8_139 dX8_readThing_191 ?_
        rw [R3.2.2.2.1]
        refine z_iconst (v := 1) F dX8_readThing_194 (by decide) ?_
        refine z_iadd F dX8_readThing_195 ?_
        refine zp_X8_manyThings F (by with_reducible assumption) fl_X8_139 dX8_readThing_196 ?_
        refine z_vret F X dX8_readThing_199 ?_
        rw [nI_1]
        have R4 := R3.mt (n + 1)
        rcases te with ⟨t1, t2, t3⟩ | ⟨t1, t2, t3, t4, t5, t6⟩
        · rw [t2, t3] at R4
          exact Or.inl ⟨t1, _, R4⟩
        · have e3' := e3 t4
          rw [t4, t5] at R4
          have e2' := e2 t3
          have e1' := e_131 t2
          rw [e1', e2', e3'] at R4
          refine Or.inr ⟨t1, ?_⟩
          rw [t6]
          exact R4
      · replace h_175 := bI_1.mp h_175
        refine z_aload_n F dX8_readThing_178 rfl ?_
        refine z_bipush (v := 30) F dX8_readThing_179 (by decide) ?_
        refine z_callVi F (p_numW J (h0 := 30) (hi := 30) R_172 hl h120 (hsP_le l2 (by decide)) w2 rfl (by decide)) zm_X8_number zv_X8_number ml_X8_142 (by with_reducible assumption) (by decide) rfl rfl rfl (Nat.le_of_ble_eq_true rfl) dX8_readThing_181 (by omega) (fun r_181 M_181 h_181 => ?_)
        obtain ⟨R_181, e_181⟩ := h_181
        refine z_goto (tgt := 188) F dX8_readThing_184 (by decide) ?_
        refine z_iast10n (q := ((4*n) + 3)) F (by with_reducible assumption) (by first | with_reducible rfl | (simp only [n4, n2, n3, n5, n14, n16, na1, na2, na3, nI_add, nI_1, nI_pred]; done) | (simp only [n4, n2, n3, n5, n14, n16, na1, na2, na3, nI_add, nI_1, nI_pred, Nat.add_assoc, Nat.add_comm, Nat.add_left_comm]; done)) (by rw [hz5]; omega) dX8_readThing_188 ?_
        refine ZW_gen (fun M3 => ∃ v3, RS M0 M3 (opP (M0.1 142) len W2 P2 99 30) (opW (M0.1 142) len W2 P2 99 30) n m (va_up (va_up (va_up (va_up th (4 * n) kd) (4 * n + 1) r_131) (4 * n + 2) v2) (4 * n + 3) v3) pe ∧ (opW (M0.1 142) len W2 P2 99 30 = 0 → v3 = (optF (M0.1 142) len P2 99 30).1)) ?_ (fun M3 ⟨v3, R3, e3⟩ => ?_)
        · obtain ⟨z1, z2⟩ := h_175
          refine ⟨r_181, ?_, fun z => ?_⟩
          · rw [opP, opW, if_pos ⟨z1, z2⟩, if_pos ⟨z1, z2⟩]
            exact R_181.th _ _
          · rw [opW, if_pos ⟨z1, z2⟩] at z
            rw [optF, if_pos z2, e_181 z, hsP, if_pos z1]
        refine z_aload_n F dX8_readThing_189 rfl ?_
        refine z_dup F dX8_readThing_190 rfl ?_
        refine zg_X8_manyThings F (by with_reducible assumption) fl_X8_139 dX8_readThing_191 ?_
        rw [R3.2.2.2.1]
        refine z_iconst (v := 1) F dX8_readThing_194 (by decide) ?_
        refine z_iadd F dX8_readThing_195 ?_
        refine zp_X8_manyThings F (by with_reducible assumption) fl_X8_139 dX8_readThing_196 ?_
        refine z_vret F X dX8_readThing_199 ?_
        rw [nI_1]
        have R4 := R3.mt (n + 1)
        rcases te with ⟨t1, t2, t3⟩ | ⟨t1, t2, t3, t4, t5, t6⟩
        · rw [t2, t3] at R4
          exact Or.inl ⟨t1, _, R4⟩
        · have e3' := e3 t4
          rw [t4, t5] at R4
          have e2' := e2 t3
          have e1' := e_131 t2
          rw [e1', e2', e3'] at R4
          refine Or.inr ⟨t1, ?_⟩
          rw [t6]
          exact R4
  refine z_iconst (v := 4) F dX8_readThing_0 (by decide) ?_
  refine z_aload_n F dX8_readThing_1 rfl ?_
  refine zg_X8_manyThings F (by with_reducible assumption) fl_X8_139 dX8_readThing_2 ?_
  try simp only [h.2.2.2.1, h.2.2.1]
  refine z_imul F dX8_readThing_5 ?_
  rw [n4]
  refine z_istore_n (lv' := [_, _, _]) F dX8_readThing_6 (by decide) rfl rfl ?_
  refine z_aload_n F dX8_readThing_7 rfl ?_
  refine zg_X8_wrong F (by with_reducible assumption) fl_X8_127 dX8_readThing_8 ?_
  try simp only [h.2.2.2.1, h.2.2.1]
  refine z_if_eq (tgt := 18) F dX8_readThing_11 (by decide) (fun h_11 => ?_) (fun h_11 => absurd h_11 (by decide))
  refine z_aload_n F dX8_readThing_18 rfl ?_
  refine z_callVi F (p_here J h hl h120 hp) zm_X8_here zv_X8_here ml_X8_131 (by with_reducible assumption) (by decide) rfl rfl rfl (Nat.le_of_ble_eq_true rfl) dX8_readThing_19 (by omega) (fun r_19 M_19 h_19 => ?_)
  obtain ⟨R_19, e_19⟩ := h_19
  generalize hc : chF (M0.1 142) len (nxP (M0.1 142) (len - p) p) = c at e_19
  subst e_19
  refine z_istore_n (lv' := [_, _, _]) F dX8_readThing_22 (by decide) rfl rfl ?_
  refine z_aload_n F dX8_readThing_23 rfl ?_
  refine zg_X8_readThings F (by with_reducible assumption) fl_X8_22 dX8_readThing_24 (fun hk_24 => ?_)
  refine z_iload_n F dX8_readThing_27 rfl ?_
  refine z_iload_n F dX8_readThing_28 rfl ?_
  refine z_bipush (v := 112) F dX8_readThing_29 (by decide) ?_
  refine z_ic_ne (tgt := 38) F dX8_readThing_31 (by decide) (fun h_31 => ?_) (fun h_31 => ?_)
  · try simp only [h.2.2.2.1, h.2.2.1] at h_31
    refine z_iload_n F dX8_readThing_38 rfl ?_
    refine z_bipush (v := 98) F dX8_readThing_39 (by decide) ?_
    refine z_ic_ne (tgt := 48) F dX8_readThing_41 (by decide) (fun h_41 => ?_) (fun h_41 => ?_)
    · try simp only [h.2.2.2.1, h.2.2.1] at h_41
      refine z_iload_n F dX8_readThing_48 rfl ?_
      refine z_bipush (v := 117) F dX8_readThing_49 (by decide) ?_
      refine z_ic_ne (tgt := 58) F dX8_readThing_51 (by decide) (fun h_51 => ?_) (fun h_51 => ?_)
      · try simp only [h.2.2.2.1, h.2.2.1] at h_51
        refine z_iconst (v := 3) F dX8_readThing_58 (by decide) ?_
        refine z_iast10n (q := (4 * n)) F (by with_reducible assumption) (by first | with_reducible rfl | (simp only [n4, n2, n3, n5, n14, n16, na1, na2, na3, nI_add, nI_1, nI_pred]; done) | (simp only [n4, n2, n3, n5, n14, n16, na1, na2, na3, nI_add, nI_1, nI_pred, Nat.add_assoc, Nat.add_comm, Nat.add_left_comm]; done)) (by rw [hz5]; omega) dX8_readThing_59 ?_
        refine z_aload_n F dX8_readThing_60 rfl ?_
        refine z_aload_n F dX8_readThing_61 rfl ?_
        refine zg_X8_wrong F (by with_reducible assumption) fl_X8_127 dX8_readThing_62 ?_
        simp +decide only [zs_g, false_and, if_false, R_19.2.2.1]
        refine z_if_ne (tgt := 92) F dX8_readThing_65 (by decide) (fun h_65 => absurd h_65 (by decide)) (fun h_65 => ?_)
        refine z_iload_n F dX8_readThing_68 rfl ?_
        refine z_bipush (v := 112) F dX8_readThing_69 (by decide) ?_
        refine z_ic_eq (tgt := 96) F dX8_readThing_71 (by decide) (fun h_71 => absurd h_71 h_31) (fun h_71 => ?_)
        refine z_iload_n F dX8_readThing_74 rfl ?_
        refine z_bipush (v := 98) F dX8_readThing_75 (by decide) ?_
        refine z_ic_eq (tgt := 96) F dX8_readThing_77 (by decide) (fun h_77 => absurd h_77 h_41) (fun h_77 => ?_)
        refine z_iload_n F dX8_readThing_80 rfl ?_
        refine z_bipush (v := 117) F dX8_readThing_81 (by decide) ?_
        refine z_ic_eq (tgt := 96) F dX8_readThing_83 (by decide) (fun h_83 => absurd h_83 h_51) (fun h_83 => ?_)
        refine z_iload_n F dX8_readThing_86 rfl ?_
        refine z_bipush (v := 109) F dX8_readThing_87 (by decide) ?_
        refine z_ic_eq (tgt := 96) F dX8_readThing_89 (by decide) (fun h_89 => ?_) (fun h_89 => ?_)
        · try simp only [h.2.2.2.1, h.2.2.1] at h_89
          refine z_iconst (v := 0) F dX8_readThing_96 (by decide) ?_
          refine zp_X8_wrong F (by with_reducible assumption) fl_X8_127 (by decide) (by decide) dX8_readThing_97 ?_
          refine z_aload_n F dX8_readThing_100 rfl ?_
          refine z_dup F dX8_readThing_101 rfl ?_
          refine zg_X8_at F (by with_reducible assumption) fl_X8_124 dX8_readThing_102 ?_
          simp +decide only [zs_g, false_and, if_false, R_19.2.1]
          refine z_aload_n F dX8_readThing_105 rfl ?_
          refine zg_X8_wrong F (by with_reducible assumption) fl_X8_127 dX8_readThing_106 ?_
          simp +decide only [zs_g, if_true]
          refine z_if_eq (tgt := 116) F dX8_readThing_109 (by decide) (fun h_109 => ?_) (fun h_109 => absurd h_109 (by decide))
          refine z_iconst (v := 1) F dX8_readThing_116 (by decide) ?_
          refine z_iadd F dX8_readThing_117 ?_
          refine zp_X8_at F (by with_reducible assumption) fl_X8_124 dX8_readThing_118 ?_
          rw [nI_1]
          refine tail 0 3 _ (nxP (M0.1 142) (len - p) p + 1) _ (((R_19.th (4 * n) 3).wr 0).at _) ?_ (Or.inr ⟨rfl, ?_, by decide, rfl⟩)
          · have := knd_lt (L := M0.1 142) (len := len) (q := nxP (M0.1 142) (len - p) p) (fun z => (knd_m.mp z).2.2.2 (hc.trans h_89)); omega
          · rw [hc, h_89]; decide
        · try simp only [h.2.2.2.1, h.2.2.1] at h_89
          refine z_iconst (v := 1) F dX8_readThing_92 (by decide) ?_
          refine z_goto (tgt := 97) F dX8_readThing_93 (by decide) ?_
          refine zp_X8_wrong F (by with_reducible assumption) fl_X8_127 (by decide) (by decide) dX8_readThing_97 ?_
          refine z_aload_n F dX8_readThing_100 rfl ?_
          refine z_dup F dX8_readThing_101 rfl ?_
          refine zg_X8_at F (by with_reducible assumption) fl_X8_124 dX8_readThing_102 ?_
          simp +decide only [zs_g, false_and, if_false, R_19.2.1]
          refine z_aload_n F dX8_readThing_105 rfl ?_
          refine zg_X8_wrong F (by with_reducible assumption) fl_X8_127 dX8_readThing_106 ?_
          simp +decide only [zs_g, if_true]
          refine z_if_eq (tgt := 116) F dX8_readThing_109 (by decide) (fun h_109 => absurd h_109 (by decide)) (fun h_109 => ?_)
          refine z_iconst (v := 0) F dX8_readThing_112 (by decide) ?_
          refine z_goto (tgt := 117) F dX8_readThing_113 (by decide) ?_
          refine z_iadd F dX8_readThing_117 ?_
          refine zp_X8_at F (by with_reducible assumption) fl_X8_124 dX8_readThing_118 ?_
          rw [Int32.add_zero]
          have z : kndF r_19 < 0 := knd_m.mpr ⟨h_31, h_41, h_51, h_89⟩
          rw [← hc] at z
          refine tail 1 3 _ (nxP (M0.1 142) (len - p) p) _ (((R_19.th (4 * n) 3).wr 1).at _) (by omega) (Or.inl ⟨rfl, ?_, ?_⟩)
          · rw [thiF, if_pos z]
          · rw [thiF, if_pos z]
      · try simp only [h.2.2.2.1, h.2.2.1] at h_51
        refine z_iconst (v := 2) F dX8_readThing_54 (by decide) ?_
        refine z_goto (tgt := 59) F dX8_readThing_55 (by decide) ?_
        refine z_iast10n (q := (4 * n)) F (by with_reducible assumption) (by first | with_reducible rfl | (simp only [n4, n2, n3, n5, n14, n16, na1, na2, na3, nI_add, nI_1, nI_pred]; done) | (simp only [n4, n2, n3, n5, n14, n16, na1, na2, na3, nI_add, nI_1, nI_pred, Nat.add_assoc, Nat.add_comm, Nat.add_left_comm]; done)) (by rw [hz5]; omega) dX8_readThing_59 ?_
        refine z_aload_n F dX8_readThing_60 rfl ?_
        refine z_aload_n F dX8_readThing_61 rfl ?_
        refine zg_X8_wrong F (by with_reducible assumption) fl_X8_127 dX8_readThing_62 ?_
        simp +decide only [zs_g, false_and, if_false, R_19.2.2.1]
        refine z_if_ne (tgt := 92) F dX8_readThing_65 (by decide) (fun h_65 => absurd h_65 (by decide)) (fun h_65 => ?_)
        refine z_iload_n F dX8_readThing_68 rfl ?_
        refine z_bipush (v := 112) F dX8_readThing_69 (by decide) ?_
        refine z_ic_eq (tgt := 96) F dX8_readThing_71 (by decide) (fun h_71 => absurd h_71 h_31) (fun h_71 => ?_)
        refine z_iload_n F dX8_readThing_74 rfl ?_
        refine z_bipush (v := 98) F dX8_readThing_75 (by decide) ?_
        refine z_ic_eq (tgt := 96) F dX8_readThing_77 (by decide) (fun h_77 => absurd h_77 h_41) (fun h_77 => ?_)
        refine z_iload_n F dX8_readThing_80 rfl ?_
        refine z_bipush (v := 117) F dX8_readThing_81 (by decide) ?_
        refine z_ic_eq (tgt := 96) F dX8_readThing_83 (by decide) (fun h_83 => ?_) (fun h_83 => absurd h_83 (fun z => z h_51))
        refine z_iconst (v := 0) F dX8_readThing_96 (by decide) ?_
        refine zp_X8_wrong F (by with_reducible assumption) fl_X8_127 (by decide) (by decide) dX8_readThing_97 ?_
        refine z_aload_n F dX8_readThing_100 rfl ?_
        refine z_dup F dX8_readThing_101 rfl ?_
        refine zg_X8_at F (by with_reducible assumption) fl_X8_124 dX8_readThing_102 ?_
        simp +decide only [zs_g, false_and, if_false, R_19.2.1]
        refine z_aload_n F dX8_readThing_105 rfl ?_
        refine zg_X8_wrong F (by with_reducible assumption) fl_X8_127 dX8_readThing_106 ?_
        simp +decide only [zs_g, if_true]
        refine z_if_eq (tgt := 116) F dX8_readThing_109 (by decide) (fun h_109 => ?_) (fun h_109 => absurd h_109 (by decide))
        refine z_iconst (v := 1) F dX8_readThing_116 (by decide) ?_
        refine z_iadd F dX8_readThing_117 ?_
        refine zp_X8_at F (by with_reducible assumption) fl_X8_124 dX8_readThing_118 ?_
        rw [nI_1]
        refine tail 0 2 _ (nxP (M0.1 142) (len - p) p + 1) _ (((R_19.th (4 * n) 2).wr 0).at _) ?_ (Or.inr ⟨rfl, ?_, by decide, rfl⟩)
        · have := knd_lt (L := M0.1 142) (len := len) (q := nxP (M0.1 142) (len - p) p) (fun z => (knd_m.mp z).2.2.1 (hc.trans h_51)); omega
        · rw [hc, h_51]; decide
    · try simp only [h.2.2.2.1, h.2.2.1] at h_41
      refine z_iconst (v := 1) F dX8_readThing_44 (by decide) ?_
      refine z_goto (tgt := 59) F dX8_readThing_45 (by decide) ?_
      refine z_iast10n (q := (4 * n)) F (by with_reducible assumption) (by first | with_reducible rfl | (simp only [n4, n2, n3, n5, n14, n16, na1, na2, na3, nI_add, nI_1, nI_pred]; done) | (simp only [n4, n2, n3, n5, n14, n16, na1, na2, na3, nI_add, nI_1, nI_pred, Nat.add_assoc, Nat.add_comm, Nat.add_left_comm]; done)) (by rw [hz5]; omega) dX8_readThing_59 ?_
      refine z_aload_n F dX8_readThing_60 rfl ?_
      refine z_aload_n F dX8_readThing_61 rfl ?_
      refine zg_X8_wrong F (by with_reducible assumption) fl_X8_127 dX8_readThing_62 ?_
      simp +decide only [zs_g, false_and, if_false, R_19.2.2.1]
      refine z_if_ne (tgt := 92) F dX8_readThing_65 (by decide) (fun h_65 => absurd h_65 (by decide)) (fun h_65 => ?_)
      refine z_iload_n F dX8_readThing_68 rfl ?_
      refine z_bipush (v := 112) F dX8_readThing_69 (by decide) ?_
      refine z_ic_eq (tgt := 96) F dX8_readThing_71 (by decide) (fun h_71 => absurd h_71 h_31) (fun h_71 => ?_)
      refine z_iload_n F dX8_readThing_74 rfl ?_
      refine z_bipush (v := 98) F dX8_readThing_75 (by decide) ?_
      refine z_ic_eq (tgt := 96) F dX8_readThing_77 (by decide) (fun h_77 => ?_) (fun h_77 => absurd h_77 (fun z => z h_41))
      refine z_iconst (v := 0) F dX8_readThing_96 (by decide) ?_
      refine zp_X8_wrong F (by with_reducible assumption) fl_X8_127 (by decide) (by decide) dX8_readThing_97 ?_
      refine z_aload_n F dX8_readThing_100 rfl ?_
      refine z_dup F dX8_readThing_101 rfl ?_
      refine zg_X8_at F (by with_reducible assumption) fl_X8_124 dX8_readThing_102 ?_
      simp +decide only [zs_g, false_and, if_false, R_19.2.1]
      refine z_aload_n F dX8_readThing_105 rfl ?_
      refine zg_X8_wrong F (by with_reducible assumption) fl_X8_127 dX8_readThing_106 ?_
      simp +decide only [zs_g, if_true]
      refine z_if_eq (tgt := 116) F dX8_readThing_109 (by decide) (fun h_109 => ?_) (fun h_109 => absurd h_109 (by decide))
      refine z_iconst (v := 1) F dX8_readThing_116 (by decide) ?_
      refine z_iadd F dX8_readThing_117 ?_
      refine zp_X8_at F (by with_reducible assumption) fl_X8_124 dX8_readThing_118 ?_
      rw [nI_1]
      refine tail 0 1 _ (nxP (M0.1 142) (len - p) p + 1) _ (((R_19.th (4 * n) 1).wr 0).at _) ?_ (Or.inr ⟨rfl, ?_, by decide, rfl⟩)
      · have := knd_lt (L := M0.1 142) (len := len) (q := nxP (M0.1 142) (len - p) p) (fun z => (knd_m.mp z).2.1 (hc.trans h_41)); omega
      · rw [hc, h_41]; decide
  · try simp only [h.2.2.2.1, h.2.2.1] at h_31
    refine z_iconst (v := 0) F dX8_readThing_34 (by decide) ?_
    refine z_goto (tgt := 59) F dX8_readThing_35 (by decide) ?_
    refine z_iast10n (q := (4 * n)) F (by with_reducible assumption) (by first | with_reducible rfl | (simp only [n4, n2, n3, n5, n14, n16, na1, na2, na3, nI_add, nI_1, nI_pred]; done) | (simp only [n4, n2, n3, n5, n14, n16, na1, na2, na3, nI_add, nI_1, nI_pred, Nat.add_assoc, Nat.add_comm, Nat.add_left_comm]; done)) (by rw [hz5]; omega) dX8_readThing_59 ?_
    refine z_aload_n F dX8_readThing_60 rfl ?_
    refine z_aload_n F dX8_readThing_61 rfl ?_
    refine zg_X8_wrong F (by with_reducible assumption) fl_X8_127 dX8_readThing_62 ?_
    simp +decide only [zs_g, false_and, if_false, R_19.2.2.1]
    refine z_if_ne (tgt := 92) F dX8_readThing_65 (by decide) (fun h_65 => absurd h_65 (by decide)) (fun h_65 => ?_)
    refine z_iload_n F dX8_readThing_68 rfl ?_
    refine z_bipush (v := 112) F dX8_readThing_69 (by decide) ?_
    refine z_ic_eq (tgt := 96) F dX8_readThing_71 (by decide) (fun h_71 => ?_) (fun h_71 => absurd h_71 (fun z => z h_31))
    refine z_iconst (v := 0) F dX8_readThing_96 (by decide) ?_
    refine zp_X8_wrong F (by with_reducible assumption) fl_X8_127 (by decide) (by decide) dX8_readThing_97 ?_
    refine z_aload_n F dX8_readThing_100 rfl ?_
    refine z_dup F dX8_readThing_101 rfl ?_
    refine zg_X8_at F (by with_reducible assumption) fl_X8_124 dX8_readThing_102 ?_
    simp +decide only [zs_g, false_and, if_false, R_19.2.1]
    refine z_aload_n F dX8_readThing_105 rfl ?_
    refine zg_X8_wrong F (by with_reducible assumption) fl_X8_127 dX8_readThing_106 ?_
    simp +decide only [zs_g, if_true]
    refine z_if_eq (tgt := 116) F dX8_readThing_109 (by decide) (fun h_109 => ?_) (fun h_109 => absurd h_109 (by decide))
    refine z_iconst (v := 1) F dX8_readThing_116 (by decide) ?_
    refine z_iadd F dX8_readThing_117 ?_
    refine zp_X8_at F (by with_reducible assumption) fl_X8_124 dX8_readThing_118 ?_
    rw [nI_1]
    refine tail 0 0 _ (nxP (M0.1 142) (len - p) p + 1) _ (((R_19.th (4 * n) 0).wr 0).at _) ?_ (Or.inr ⟨rfl, ?_, by decide, rfl⟩)
    · have := knd_lt (L := M0.1 142) (len := len) (q := nxP (M0.1 142) (len - p) p) (fun z => (knd_m.mp z).1 (hc.trans h_31)); omega
    · rw [hc, h_31]; decide
end
section
/-! what is had, a person, as the reference reads them -/
def TR (rp : zF1) : zF1 := fun q => if q < 5 then (if q = 0 then -4 else 0) else rp (3 * (q - 5) + 1)
def peR (rp : zF1) : zF1 := fun q => if q % 2 = 0 then rp (3 * (q / 2)) else rp (3 * (q / 2) + 2)
theorem TR_5 (rp : zF1) (k : Nat) : TR rp (5 + k) = rp (3 * k + 1) := by unfold TR; rw [if_neg (by omega), show 5 + k - 5 = k by omega]
theorem TR_up0 (rp : zF1) (m : Nat) (v : Int32) : TR (va_up rp (3 * m) v) = TR rp := by
  funext q
  unfold TR
  split
  · rfl
  · exact va_up_ne _ _ (by omega)
theorem TR_up2 (rp : zF1) (m : Nat) (v : Int32) : TR (va_up rp (3 * m + 2) v) = TR rp := by
  funext q
  unfold TR
  split
  · rfl
  · exact va_up_ne _ _ (by omega)
theorem TR_up1 (rp : zF1) (m : Nat) (v : Int32) : TR (va_up rp (3 * m + 1) v) = va_up (TR rp) (5 + m) v := by
  funext q
  by_cases h : q = 5 + m
  · subst h; rw [TR_5, va_up_self, va_up_self]
  · rw [va_up_ne _ _ h]
    unfold TR
    split
    · rfl
    · exact va_up_ne _ _ (by omega)
theorem peR_up0 (rp : zF1) (m : Nat) (v : Int32) : peR (va_up rp (3 * m) v) = va_up (peR rp) (2 * m) v := by
  funext q
  by_cases h : q = 2 * m
  · subst h; rw [va_up_self]; unfold peR; rw [if_pos (by omega), show 2 * m / 2 = m by omega, va_up_self]
  · rw [va_up_ne _ _ h]
    unfold peR
    split
    · exact va_up_ne _ _ (by omega)
    · exact va_up_ne _ _ (by omega)
theorem peR_up1 (rp : zF1) (m : Nat) (v : Int32) : peR (va_up rp (3 * m + 1) v) = peR rp := by
  funext q
  unfold peR
  split
  · exact va_up_ne _ _ (by omega)
  · exact va_up_ne _ _ (by omega)
theorem peR_up2 (rp : zF1) (m : Nat) (v : Int32) : peR (va_up rp (3 * m + 2) v) = va_up (peR rp) (2 * m + 1) v := by
  funext q
  by_cases h : q = 2 * m + 1
  · subst h; rw [va_up_self]; unfold peR; rw [if_neg (by omega), show (2 * m + 1) / 2 = m by omega, va_up_self]
  · rw [va_up_ne _ _ h]
    unfold peR
    split
    · exact va_up_ne _ _ (by omega)
    · exact va_up_ne _ _ (by omega)
theorem le_m1 {t : Int32} {n : Nat} (h : n ≤ 10) : t ≤ nI n - 1 ↔ t < nI n := by
  have e : (nI n - 1).toInt = (n : Int) - 1 := (by decide : ∀ n, n < 11 → (nI n - 1).toInt = (n : Int) - 1) n (by omega)
  rw [Int32.le_iff_toInt_le, Int32.lt_iff_toInt_lt, e, nI_toInt (by omega)]
  omega
theorem who_TR {rp : zF1} {m : Nat} {t : Int32} (h8 : m ≤ 8) (h0 : 0 ≤ t) : whoF (TR rp) m t = -4 ↔ ∀ k, k < m → ¬ rp (3 * k + 1) = t := by
  rw [whoF_none h8]
  constructor
  · intro z k hk
    have := z.2 k hk
    rw [TR_5] at this
    exact this
  · intro z
    refine ⟨fun y => ?_, fun k hk => by rw [TR_5]; exact z k hk⟩
    rw [show TR rp 0 = -4 from rfl] at y
    subst y
    exact absurd h0 (by decide)
theorem free_t {L : zF1} {len p n m : Nat} {rp : zF1} {t : Int32} (h8 : m ≤ 8) (ht : t = chF L len (nxP L (len - p) p) - 48) (h1 : 0 ≤ t ∧ t < nI n) (h2 : ∀ k, k < m → ¬ rp (3 * k + 1) = t) : freeF L len p (nI n) (TR rp) m = (t, nxP L (len - p) p + 1) := by
  unfold freeF
  rw [← ht, if_pos ⟨h1, (who_TR h8 h1.1).mpr h2⟩]
theorem free_f {L : zF1} {len p n m : Nat} {rp : zF1} {t : Int32} (h8 : m ≤ 8) (ht : t = chF L len (nxP L (len - p) p) - 48) (h1 : (0 ≤ t ∧ t < nI n) → ∃ k, k < m ∧ rp (3 * k + 1) = t) : freeF L len p (nI n) (TR rp) m = (-1, nxP L (len - p) p) := by
  unfold freeF
  rw [← ht, if_neg (fun z => by obtain ⟨k, q1, q2⟩ := h1 z.1; exact (who_TR h8 z.1.1).mp z.2 k q1 q2)]
theorem p_readHad {l : Launch} {w : zE} (J : zJ w) {M0 M : zM} {p n m len : Nat} {th rp : zF1} (h : RS M0 M p 0 n m th rp) (hl : M0.1 138 10 = nI len) (h120 : len ≤ 120) (hp : p ≤ len) (hn : n ≤ 10) (hm : m ≤ 8) : zCi l w yX8_readHad cX8_readHad 3 (some .int) 1 [.ref (w.2.2 138)] M (fun r M2 => ((freeF (M0.1 142) len p (nI n) (TR rp) m).1 < 0 ∧ RS M0 M2 (freeF (M0.1 142) len p (nI n) (TR rp) m).2 1 n m th rp) ∨ (¬ (freeF (M0.1 142) len p (nI n) (TR rp) m).1 < 0 ∧ RS M0 M2 (freeF (M0.1 142) len p (nI n) (TR rp) m).2 0 n m th rp ∧ r = (freeF (M0.1 142) len p (nI n) (TR rp) m).1)) := by
  have hk : zk 138 = 8 := by decide
  obtain ⟨hz1, hz2, hz3, hz4, hz5, hz6, hz7, hz8, hz9, hz10, hz11, hz12, hz13, hz14, hz15⟩ := zn8 (show 138 = 138 from rfl)
  refine zCi_of J zm_X8_readHad [some (.ref (w.2.2 138)), none, none] (Nat.le_of_ble_eq_true rfl) rfl (fun g hg F X => ?_)
  subst hg
  have ex1 : ∀ (t k : Int32) (q : Nat) (M' : zM), RS M0 M' q 1 n m th rp → freeF (M0.1 142) len p (nI n) (TR rp) m = (-1, q) → ZW w g 3 97 [some (.ref (w.2.2 138)), some (.int t), some (.int k)] [] M' := by
    intro t k q M' R e
    refine z_aload_n F dX8_readHad_97 rfl ?_
    refine z_dup F dX8_readHad_98 rfl ?_
    refine zg_X8_at F (by with_reducible assumption) fl_X8_124 dX8_readHad_99 ?_
    try simp only [R.2.1, R.2.2.1]
    refine z_aload_n F dX8_readHad_102 rfl ?_
    refine zg_X8_wrong F (by with_reducible assumption) fl_X8_127 dX8_readHad_103 ?_
    try simp only [R.2.1, R.2.2.1]
    refine z_if_eq (tgt := 113) F dX8_readHad_106 (by decide) (fun h_106 => absurd h_106 (by decide)) (fun h_106 => ?_)
    refine z_iconst (v := 0) F dX8_readHad_109 (by decide) ?_
    refine z_goto (tgt := 114) F dX8_readHad_110 (by decide) ?_
    refine z_iadd F dX8_readHad_114 ?_
    refine zp_X8_at F (by with_reducible assumption) fl_X8_124 dX8_readHad_115 ?_
    refine z_iload_n F dX8_readHad_118 rfl ?_
    refine z_iret F X dX8_readHad_119 ?_
    rw [e, Int32.add_zero]
    exact Or.inl ⟨(by decide : (-1 : Int32) < 0), R.at _⟩
  have ex0 : ∀ (t k : Int32) (q : Nat) (M' : zM), RS M0 M' q 0 n m th rp → freeF (M0.1 142) len p (nI n) (TR rp) m = (t, q + 1) → 0 ≤ t → ZW w g 3 97 [some (.ref (w.2.2 138)), some (.int t), some (.int k)] [] M' := by
    intro t k q M' R e ht
    refine z_aload_n F dX8_readHad_97 rfl ?_
    refine z_dup F dX8_readHad_98 rfl ?_
    refine zg_X8_at F (by with_reducible assumption) fl_X8_124 dX8_readHad_99 ?_
    try simp only [R.2.1, R.2.2.1]
    refine z_aload_n F dX8_readHad_102 rfl ?_
    refine zg_X8_wrong F (by with_reducible assumption) fl_X8_127 dX8_readHad_103 ?_
    try simp only [R.2.1, R.2.2.1]
    refine z_if_eq (tgt := 113) F dX8_readHad_106 (by decide) (fun h_106 => ?_) (fun h_106 => absurd h_106 (by decide))
    refine z_iconst (v := 1) F dX8_readHad_113 (by decide) ?_
    refine z_iadd F dX8_readHad_114 ?_
    refine zp_X8_at F (by with_reducible assumption) fl_X8_124 dX8_readHad_115 ?_
    refine z_iload_n F dX8_readHad_118 rfl ?_
    refine z_iret F X dX8_readHad_119 ?_
    rw [e, nI_1]
    exact Or.inr ⟨Int32.not_lt.mpr ht, R.at _, rfl⟩
  have lp1 : ∀ (t k : Int32) (q : Nat) (M' : zM), RS M0 M' q 1 n m th rp → freeF (M0.1 142) len p (nI n) (TR rp) m = (-1, q) → ZW w g 3 53 [some (.ref (w.2.2 138)), some (.int t), some (.int k)] [] M' := by
    intro t k q M' R e
    refine z_iload_n F dX8_readHad_53 rfl ?_
    refine z_aload_n F dX8_readHad_54 rfl ?_
    refine zg_X8_manyPeople F (by with_reducible assumption) fl_X8_148 dX8_readHad_55 ?_
    try simp only [R.2.2.1]
    refine z_ic_ge (tgt := 97) F dX8_readHad_58 (by decide) (fun h_58 => ?_) (fun h_58 => ?_)
    · try simp only [R.2.2.1] at h_58
      exact ex1 t k q M' R e
    · try simp only [R.2.2.1] at h_58
      refine z_aload_n F dX8_readHad_61 rfl ?_
      refine zg_X8_wrong F (by with_reducible assumption) fl_X8_127 dX8_readHad_62 ?_
      try simp only [R.2.2.1]
      refine z_if_ne (tgt := 97) F dX8_readHad_65 (by decide) (fun h_65 => ?_) (fun h_65 => absurd h_65 (by decide))
      exact ex1 t k q M' R e
  have lp : ∀ (t : Int32), t = chF (M0.1 142) len (nxP (M0.1 142) (len - p) p) - 48 → (0 ≤ t ∧ t < nI n) → ∀ (j k : Nat) (M' : zM), k + j = m → (∀ i, i < k → ¬ rp (3 * i + 1) = t) → RS M0 M' (nxP (M0.1 142) (len - p) p) 0 n m th rp → ZW w g 3 53 [some (.ref (w.2.2 138)), some (.int t), some (.int (nI k))] [] M' := by
    intro t et ht j
    induction j with
    | zero =>
      intro k M' hkj hi R
      obtain rfl : k = m := by omega
      refine z_iload_n F dX8_readHad_53 rfl ?_
      refine z_aload_n F dX8_readHad_54 rfl ?_
      refine zg_X8_manyPeople F (by with_reducible assumption) fl_X8_148 dX8_readHad_55 ?_
      try simp only [R.2.2.2.2.1]
      refine z_ic_ge (tgt := 97) F dX8_readHad_58 (by decide) (fun h_58 => ?_) (fun h_58 => absurd h_58 (nlt (Int32.le_refl _)))
      exact ex0 t _ _ M' R (free_t hm et ht hi) ht.1
    | succ j ih =>
      intro k M' hkj hi R
      refine z_iload_n F dX8_readHad_53 rfl ?_
      refine z_aload_n F dX8_readHad_54 rfl ?_
      refine zg_X8_manyPeople F (by with_reducible assumption) fl_X8_148 dX8_readHad_55 ?_
      try simp only [R.2.2.2.2.1, R.2.2.1, show M'.1 (138 + 6) = rp from R.2.2.2.2.2.2, R.2.2.2.2.2.2]
      refine z_ic_ge (tgt := 97) F dX8_readHad_58 (by decide) (fun h_58 => absurd h_58 (nle (nI_lt (by omega) (by omega)))) (fun h_58 => ?_)
      refine z_aload_n F dX8_readHad_61 rfl ?_
      refine zg_X8_wrong F (by with_reducible assumption) fl_X8_127 dX8_readHad_62 ?_
      try simp only [R.2.2.2.2.1, R.2.2.1, show M'.1 (138 + 6) = rp from R.2.2.2.2.2.2, R.2.2.2.2.2.2]
      refine z_if_ne (tgt := 97) F dX8_readHad_65 (by decide) (fun h_65 => absurd h_65 (by decide)) (fun h_65 => ?_)
      refine z_aload_n F dX8_readHad_68 rfl ?_
      refine z_aload_n F dX8_readHad_69 rfl ?_
      refine zg_X8_readPeople F (by with_reducible assumption) fl_X8_25 dX8_readHad_70 (fun hk_70 => ?_)
      refine z_iconst (v := 3) F dX8_readHad_73 (by decide) ?_
      refine z_iload_n F dX8_readHad_74 rfl ?_
      refine z_imul F dX8_readHad_75 ?_
      refine z_iconst (v := 1) F dX8_readHad_76 (by decide) ?_
      refine z_iadd F dX8_readHad_77 ?_
      refine z_iald10n (q := ((3 * k) + 1)) F (by with_reducible assumption) (by first | with_reducible rfl | (simp only [n4, n2, n3, n5, n14, n16, na1, na2, na3, nI_add, nI_1, nI_pred]; done) | (simp only [n4, n2, n3, n5, n14, n16, na1, na2, na3, nI_add, nI_1, nI_pred, Nat.add_assoc, Nat.add_comm, Nat.add_left_comm]; done)) (by rw [hz6]; omega) dX8_readHad_78 ?_
      try simp only [R.2.2.2.2.1, R.2.2.1, show M'.1 (138 + 6) = rp from R.2.2.2.2.2.2, R.2.2.2.2.2.2]
      refine z_iload_n F dX8_readHad_79 rfl ?_
      refine z_ic_ne (tgt := 87) F dX8_readHad_80 (by decide) (fun h_80 => ?_) (fun h_80 => ?_)
      · try simp only [R.2.2.2.2.1, R.2.2.1, show M'.1 (138 + 6) = rp from R.2.2.2.2.2.2, R.2.2.2.2.2.2] at h_80
        refine z_iconst (v := 0) F dX8_readHad_87 (by decide) ?_
        refine zp_X8_wrong F (by with_reducible assumption) fl_X8_127 (by decide) (by decide) dX8_readHad_88 ?_
        refine z_iincc (c := 1) (lv' := [_, _, _]) F dX8_readHad_91 rfl (by decide) (by decide) rfl rfl ?_
        refine z_goto (tgt := 53) F dX8_readHad_94 (by decide) ?_
        rw [nI_1]
        refine ih (k + 1) _ (by omega) (fun i hi2 => ?_) (R.wr 0)
        by_cases e : i = k
        · subst e; exact h_80
        · exact hi i (by omega)
      · try simp only [R.2.2.2.2.1, R.2.2.1, show M'.1 (138 + 6) = rp from R.2.2.2.2.2.2, R.2.2.2.2.2.2] at h_80
        refine z_iconst (v := 1) F dX8_readHad_83 (by decide) ?_
        refine z_goto (tgt := 88) F dX8_readHad_84 (by decide) ?_
        refine zp_X8_wrong F (by with_reducible assumption) fl_X8_127 (by decide) (by decide) dX8_readHad_88 ?_
        refine z_iincc (c := 1) (lv' := [_, _, _]) F dX8_readHad_91 rfl (by decide) (by decide) rfl rfl ?_
        refine z_goto (tgt := 53) F dX8_readHad_94 (by decide) ?_
        exact lp1 t _ _ _ (R.wr 1) (free_f hm et (fun _ => ⟨k, by omega, h_80⟩))
  refine z_aload_n F dX8_readHad_0 rfl ?_
  refine zg_X8_wrong F (by with_reducible assumption) fl_X8_127 dX8_readHad_1 ?_
  try simp only [h.2.2.1]
  refine z_if_eq (tgt := 11) F dX8_readHad_4 (by decide) (fun h_4 => ?_) (fun h_4 => absurd h_4 (by decide))
  refine z_aload_n F dX8_readHad_11 rfl ?_
  refine z_callVi F (p_here J h hl h120 hp) zm_X8_here zv_X8_here ml_X8_131 (by with_reducible assumption) (by decide) rfl rfl rfl (Nat.le_of_ble_eq_true rfl) dX8_readHad_12 (by omega) (fun r_12 M_12 h_12 => ?_)
  obtain ⟨R_12, e_12⟩ := h_12
  subst e_12
  refine z_bipush (v := 48) F dX8_readHad_15 (by decide) ?_
  refine z_isub F dX8_readHad_17 ?_
  refine z_istore_n (lv' := [_, _, _]) F dX8_readHad_18 (by decide) rfl rfl ?_
  refine z_aload_n F dX8_readHad_19 rfl ?_
  refine z_aload_n F dX8_readHad_20 rfl ?_
  refine zg_X8_wrong F (by with_reducible assumption) fl_X8_127 dX8_readHad_21 ?_
  simp only [R_12.2.2.1]
  refine z_if_ne (tgt := 43) F dX8_readHad_24 (by decide) (fun h_24 => absurd h_24 (by decide)) (fun h_24 => ?_)
  refine z_iload_n F dX8_readHad_27 rfl ?_
  refine z_i2l F dX8_readHad_28 ?_
  refine z_lconst (v := 0) F dX8_readHad_29 (by decide) ?_
  refine z_aload_n F dX8_readHad_30 rfl ?_
  refine zg_X8_manyThings F (by with_reducible assumption) fl_X8_139 dX8_readHad_31 ?_
  simp only [R_12.2.2.2.1]
  refine z_iconst (v := 1) F dX8_readHad_34 (by decide) ?_
  refine z_isub F dX8_readHad_35 ?_
  refine z_i2l F dX8_readHad_36 ?_
  refine z_callSi F (d_X8_in J (a := 0) (b := nI n - 1) (by decide) rfl) zm_X8_in zst_X8_in ml_X8_72 rfl rfl (Nat.le_of_ble_eq_true rfl) dX8_readHad_37 (by omega) (fun r_37 M_37 h_37 => ?_)
  obtain ⟨e_37, rfl⟩ := h_37
  replace e_37 := Eq.symm e_37
  subst e_37
  refine z_if_ne (tgt := 47) F dX8_readHad_40 (by decide) (fun h_40 => ?_) (fun h_40 => ?_)
  · replace h_40 := bI_1.mp h_40
    try simp only [h.2.2.1] at h_40
    refine z_iconst (v := 0) F dX8_readHad_47 (by decide) ?_
    refine zp_X8_wrong F (by with_reducible assumption) fl_X8_127 (by decide) (by decide) dX8_readHad_48 ?_
    refine z_iconst (v := 0) F dX8_readHad_51 (by decide) ?_
    refine z_istore_n (lv' := [_, _, _]) F dX8_readHad_52 (by decide) rfl rfl ?_
    exact lp _ rfl ⟨h_40.1, (le_m1 hn).mp h_40.2⟩ m 0 _ (by omega) (fun i hi => absurd hi (by omega)) (R_12.wr 0)
  · replace h_40 := bI_0.mp h_40
    try simp only [h.2.2.1] at h_40
    refine z_iconst (v := 1) F dX8_readHad_43 (by decide) ?_
    refine z_goto (tgt := 48) F dX8_readHad_44 (by decide) ?_
    refine zp_X8_wrong F (by with_reducible assumption) fl_X8_127 (by decide) (by decide) dX8_readHad_48 ?_
    refine z_iconst (v := 0) F dX8_readHad_51 (by decide) ?_
    refine z_istore_n (lv' := [_, _, _]) F dX8_readHad_52 (by decide) rfl rfl ?_
    exact lp1 _ _ _ _ (R_12.wr 1) (free_f hm rfl (fun z => absurd ⟨z.1, (le_m1 hn).mpr z.2⟩ h_40))
theorem perG_opt (L : zF1) (len : Nat) (t : Int32 × Nat) (m : Int32) : perG L len t m = if (optF L len t.2 43 20).1 < 0 then (0, (optF L len t.2 43 20).2, 0, 0, 0) else (1, (optF L len t.2 43 20).2, m, (optF L len t.2 43 20).1, t.1) := by
  unfold perG optF
  by_cases h : rdB L len t.2 43
  · rw [if_pos h, if_pos h]
  · rw [if_neg h, if_neg h, if_neg (by show ¬ (0 : Int32) < 0; decide)]
abbrev hadQ (L : zF1) (len p n m : Nat) (rp : zF1) (W2 : Int32) (P2 : Nat) (v : Int32) : Prop := (W2 = 1 ∧ (perF L len p (nI n) (TR rp) m).1 = 0 ∧ (perF L len p (nI n) (TR rp) m).2.1 = P2) ∨ (W2 = 0 ∧ nuW L len 0 p 11 = 0 ∧ perF L len p (nI n) (TR rp) m = perG L len (v, P2) (numF L len p 11).1)
theorem per_end {L : zF1} {len p n m P2 : Nat} {rp : zF1} {W2 v : Int32} (h : hadQ L len p n m rp W2 P2 v) :
    ((perF L len p (nI n) (TR rp) m).1 = 0 ∧ opW L len W2 P2 43 20 = 1 ∧ opP L len W2 P2 43 20 = (perF L len p (nI n) (TR rp) m).2.1) ∨ (¬ (perF L len p (nI n) (TR rp) m).1 = 0 ∧ nuW L len 0 p 11 = 0 ∧ opW L len W2 P2 43 20 = 0 ∧ opP L len W2 P2 43 20 = (perF L len p (nI n) (TR rp) m).2.1 ∧ (perF L len p (nI n) (TR rp) m).2.2 = ((numF L len p 11).1, (optF L len P2 43 20).1, v)) := by
  rcases h with ⟨rfl, h1, h2⟩ | ⟨rfl, h1, h2⟩
  · rw [opW_1, opP_1]
    exact Or.inl ⟨h1, rfl, h2.symm⟩
  · rw [h2, perG_opt, opP_0]
    by_cases z : (optF L len P2 43 20).1 < 0
    · rw [if_pos z, opW_f z]
      exact Or.inl ⟨rfl, rfl, rfl⟩
    · rw [if_neg z, opW_t z]
      exact Or.inr ⟨by show ¬ (1 : Int32) = 0; decide, h1, rfl, rfl, rfl⟩
theorem nuW_z {L : zF1} {len p : Nat} {hi : Int32} (h : nuW L len 0 p hi = 0) : ¬ (numF L len p hi).1 < 0 := fun z => by rw [nuW_f z] at h; exact absurd h (by decide)
theorem nuW_o {L : zF1} {len p : Nat} {hi : Int32} (h : ¬ nuW L len 0 p hi = 0) : (numF L len p hi).1 < 0 ∧ nuW L len 0 p hi = 1 := by
  by_cases z : (numF L len p hi).1 < 0
  · exact ⟨z, nuW_f z⟩
  · exact absurd (nuW_t z) h
/-- nothing is had -/
theorem had_no {L : zF1} {len p n m : Nat} {rp : zF1} (h : ¬ hsB L len (nuW L len 0 p 11) (nuP L len 0 p 11) 61) : hadQ L len p n m rp (nuW L len 0 p 11) (hsP L len (nuW L len 0 p 11) (nuP L len 0 p 11) 61) (-4) := by
  by_cases z : nuW L len 0 p 11 = 0
  · rw [z, nuP_0] at h
    have h2 : ¬ rdB L len (numF L len p 11).2 61 := fun y => h ⟨rfl, y⟩
    refine Or.inr ⟨z, z, ?_⟩
    rw [z, hsP_0, nuP_0]
    unfold perF
    rw [if_neg (nuW_z z), if_neg (fun y => h2 y.1), if_neg h2]
  · obtain ⟨z1, z2⟩ := nuW_o z
    refine Or.inl ⟨z2, ?_, ?_⟩
    · unfold perF; rw [if_pos z1]
    · rw [z2, hsP_1, nuP_0]; unfold perF; rw [if_pos z1]
theorem p_readPerson {l : Launch} {w : zE} (J : zJ w) {M0 M : zM} {p n m len : Nat} {th rp : zF1} (h : RS M0 M p 0 n m th rp) (hl : M0.1 138 10 = nI len) (h120 : len ≤ 120) (hp : p ≤ len) (hn : n ≤ 10) (hm : m < 8) : zCv l w yX8_readPerson cX8_readPerson 2 2 [.ref (w.2.2 138)] M (fun M2 => ((perF (M0.1 142) len p (nI n) (TR rp) m).1 = 0 ∧ ∃ rp', RS M0 M2 (perF (M0.1 142) len p (nI n) (TR rp) m).2.1 1 n (m + 1) th rp') ∨ (¬ (perF (M0.1 142) len p (nI n) (TR rp) m).1 = 0 ∧ ∃ rp', RS M0 M2 (perF (M0.1 142) len p (nI n) (TR rp) m).2.1 0 n (m + 1) th rp' ∧ peR rp' = va_up (va_up (peR rp) (2 * m) (perF (M0.1 142) len p (nI n) (TR rp) m).2.2.1) (2 * m + 1) (perF (M0.1 142) len p (nI n) (TR rp) m).2.2.2.1 ∧ TR rp' = va_up (TR rp) (5 + m) (perF (M0.1 142) len p (nI n) (TR rp) m).2.2.2.2)) := by
  have hk : zk 138 = 8 := by decide
  obtain ⟨hz1, hz2, hz3, hz4, hz5, hz6, hz7, hz8, hz9, hz10, hz11, hz12, hz13, hz14, hz15⟩ := zn8 (show 138 = 138 from rfl)
  refine zCv_of J zm_X8_readPerson [some (.ref (w.2.2 138)), none] (Nat.le_of_ble_eq_true rfl) rfl (fun g hg F X => ?_)
  subst hg
  have w1 := nuW_01 (M0.1 142) len 0 p 11
  have l1 : nuP (M0.1 142) len 0 p 11 ≤ len := nuP_le hp
  refine z_iconst (v := 3) F dX8_readPerson_0 (by decide) ?_
  refine z_aload_n F dX8_readPerson_1 rfl ?_
  refine zg_X8_manyPeople F (by with_reducible assumption) fl_X8_148 dX8_readPerson_2 ?_
  try simp only [h.2.2.2.2.1]
  refine z_imul F dX8_readPerson_5 ?_
  rw [n3]
  refine z_istore_n (lv' := [_, _]) F dX8_readPerson_6 (by decide) rfl rfl ?_
  refine z_aload_n F dX8_readPerson_7 rfl ?_
  refine zg_X8_readPeople F (by with_reducible assumption) fl_X8_25 dX8_readPerson_8 (fun hk_8 => ?_)
  refine z_iload_n F dX8_readPerson_11 rfl ?_
  refine z_aload_n F dX8_readPerson_12 rfl ?_
  refine z_bipush (v := 11) F dX8_readPerson_13 (by decide) ?_
  refine z_callVi F (p_numW J (h0 := 11) (hi := 11) h hl h120 hp (Or.inl rfl) rfl (by decide)) zm_X8_number zv_X8_number ml_X8_142 (by with_reducible assumption) (by decide) rfl rfl rfl (Nat.le_of_ble_eq_true rfl) dX8_readPerson_15 (by omega) (fun r_15 M_15 h_15 => ?_)
  obtain ⟨R_15, e_15⟩ := h_15
  refine z_iast10n (q := (3 * m)) F (by with_reducible assumption) (by first | with_reducible rfl | (simp only [n4, n2, n3, n5, n14, n16, na1, na2, na3, nI_add, nI_1, nI_pred]; done) | (simp only [n4, n2, n3, n5, n14, n16, na1, na2, na3, nI_add, nI_1, nI_pred, Nat.add_assoc, Nat.add_comm, Nat.add_left_comm]; done)) (by rw [hz6]; omega) dX8_readPerson_18 ?_
  refine z_aload_n F dX8_readPerson_19 rfl ?_
  refine zg_X8_readPeople F (by with_reducible assumption) fl_X8_25 dX8_readPerson_20 (fun hk_20 => ?_)
  refine z_iload_n F dX8_readPerson_23 rfl ?_
  refine z_iconst (v := 1) F dX8_readPerson_24 (by decide) ?_
  refine z_iadd F dX8_readPerson_25 ?_
  refine z_aload_n F dX8_readPerson_26 rfl ?_
  refine z_bipush (v := 61) F dX8_readPerson_27 (by decide) ?_
  refine z_callVi F (p_has J (R_15.pe (3 * m) r_15) hl h120 l1 w1) zm_X8_has zv_X8_has ml_X8_145 (by with_reducible assumption) (by decide) rfl rfl rfl (Nat.le_of_ble_eq_true rfl) dX8_readPerson_29 (by omega) (fun r_29 M_29 h_29 => ?_)
  obtain ⟨R_29, e_29⟩ := h_29
  subst e_29
  refine z_if_eq (tgt := 42) F dX8_readPerson_32 (by decide) (fun h_32 => ?_) (fun h_32 => ?_)
  · replace h_32 := bI_0.mp h_32
    try simp only [h.2.2.2.2.1] at h_32
    refine z_bipush (v := (-4)) F dX8_readPerson_42 (by decide) ?_
    refine z_iast10n (q := ((3 * m) + 1)) F (by with_reducible assumption) (by first | with_reducible rfl | (simp only [n4, n2, n3, n5, n14, n16, na1, na2, na3, nI_add, nI_1, nI_pred]; done) | (simp only [n4, n2, n3, n5, n14, n16, na1, na2, na3, nI_add, nI_1, nI_pred, Nat.add_assoc, Nat.add_comm, Nat.add_left_comm]; done)) (by rw [hz6]; omega) dX8_readPerson_44 ?_
    refine ZW_gen (fun M2 => ∃ W2 P2 v, (W2 = 0 ∨ W2 = 1) ∧ P2 ≤ len ∧ RS M0 M2 P2 W2 n m th (va_up (va_up rp (3 * m) r_15) (3 * m + 1) v) ∧ hadQ (M0.1 142) len p n m rp W2 P2 v) ?_ (fun M2 ⟨W2, P2, v, w2, l2, R2, hq⟩ => ?_)
    · exact ⟨_, _, -4, w1, hsP_le l1 (by decide), R_29.pe _ _, had_no h_32⟩
    refine z_aload_n F dX8_readPerson_45 rfl ?_
    refine zg_X8_readPeople F (by with_reducible assumption) fl_X8_25 dX8_readPerson_46 (fun hk_46 => ?_)
    refine z_iload_n F dX8_readPerson_49 rfl ?_
    refine z_iconst (v := 2) F dX8_readPerson_50 (by decide) ?_
    refine z_iadd F dX8_readPerson_51 ?_
    refine z_aload_n F dX8_readPerson_52 rfl ?_
    refine z_bipush (v := 43) F dX8_readPerson_53 (by decide) ?_
    refine z_callVi F (p_has J R2 hl h120 l2 w2) zm_X8_has zv_X8_has ml_X8_145 (by with_reducible assumption) (by decide) rfl rfl rfl (Nat.le_of_ble_eq_true rfl) dX8_readPerson_55 (by omega) (fun r_55 M_55 h_55 => ?_)
    obtain ⟨R_55, e_55⟩ := h_55
    subst e_55
    refine z_if_eq (tgt := 70) F dX8_readPerson_58 (by decide) (fun h_58 => ?_) (fun h_58 => ?_)
    · replace h_58 := bI_0.mp h_58
      try simp only [h.2.2.2.2.1] at h_58
      refine z_iconst (v := 0) F dX8_readPerson_70 (by decide) ?_
      refine z_iast10n (q := ((3 * m) + 2)) F (by with_reducible assumption) (by first | with_reducible rfl | (simp only [n4, n2, n3, n5, n14, n16, na1, na2, na3, nI_add, nI_1, nI_pred]; done) | (simp only [n4, n2, n3, n5, n14, n16, na1, na2, na3, nI_add, nI_1, nI_pred, Nat.add_assoc, Nat.add_comm, Nat.add_left_comm]; done)) (by rw [hz6]; omega) dX8_readPerson_71 ?_
      refine ZW_gen (fun M3 => ∃ v3, RS M0 M3 (opP (M0.1 142) len W2 P2 43 20) (opW (M0.1 142) len W2 P2 43 20) n m th (va_up (va_up (va_up rp (3 * m) r_15) (3 * m + 1) v) (3 * m + 2) v3) ∧ (opW (M0.1 142) len W2 P2 43 20 = 0 → v3 = (optF (M0.1 142) len P2 43 20).1)) ?_ (fun M3 ⟨v3, R3, e3⟩ => ?_)
      · refine ⟨0, ?_, fun z => ?_⟩
        · rw [opP, opW, if_neg h_58, if_neg h_58]
          exact R_55.pe _ _
        · rw [optF, if_neg (fun y => h_58 ⟨?_, y⟩)]
          rw [opW, if_neg h_58] at z
          exact z
      refine z_aload_n F dX8_readPerson_72 rfl ?_
      refine z_dup F dX8_readPerson_73 rfl ?_
      refine zg_X8_manyPeople F (by with_reducible assumption) fl_X8_148 dX8_readPerson_74 ?_
      rw [R3.2.2.2.2.1]
      refine z_iconst (v := 1) F dX8_readPerson_77 (by decide) ?_
      refine z_iadd F dX8_readPerson_78 ?_
      refine zp_X8_manyPeople F (by with_reducible assumption) fl_X8_148 dX8_readPerson_79 ?_
      refine z_vret F X dX8_readPerson_82 ?_
      rw [nI_1]
      have R4 := R3.mp (m + 1)
      rcases per_end hq with ⟨t1, t2, t3⟩ | ⟨t1, t2, t3, t4, t5⟩
      · rw [t2, t3] at R4
        exact Or.inl ⟨t1, _, R4⟩
      · have e3' := e3 t3
        rw [t3, t4] at R4
        refine Or.inr ⟨t1, _, R4, ?_, ?_⟩
        · rw [peR_up2, peR_up1, peR_up0, t5, e_15 t2, e3']
        · rw [TR_up2, TR_up1, TR_up0, t5]
    · replace h_58 := bI_1.mp h_58
      try simp only [h.2.2.2.2.1] at h_58
      refine z_aload_n F dX8_readPerson_61 rfl ?_
      refine z_bipush (v := 20) F dX8_readPerson_62 (by decide) ?_
      refine z_callVi F (p_numW J (h0 := 20) (hi := 20) R_55 hl h120 (hsP_le l2 (by decide)) w2 rfl (by decide)) zm_X8_number zv_X8_number ml_X8_142 (by with_reducible assumption) (by decide) rfl rfl rfl (Nat.le_of_ble_eq_true rfl) dX8_readPerson_64 (by omega) (fun r_64 M_64 h_64 => ?_)
      obtain ⟨R_64, e_64⟩ := h_64
      refine z_goto (tgt := 71) F dX8_readPerson_67 (by decide) ?_
      refine z_iast10n (q := ((3 * m) + 2)) F (by with_reducible assumption) (by first | with_reducible rfl | (simp only [n4, n2, n3, n5, n14, n16, na1, na2, na3, nI_add, nI_1, nI_pred]; done) | (simp only [n4, n2, n3, n5, n14, n16, na1, na2, na3, nI_add, nI_1, nI_pred, Nat.add_assoc, Nat.add_comm, Nat.add_left_comm]; done)) (by rw [hz6]; omega) dX8_readPerson_71 ?_
      refine ZW_gen (fun M3 => ∃ v3, RS M0 M3 (opP (M0.1 142) len W2 P2 43 20) (opW (M0.1 142) len W2 P2 43 20) n m th (va_up (va_up (va_up rp (3 * m) r_15) (3 * m + 1) v) (3 * m + 2) v3) ∧ (opW (M0.1 142) len W2 P2 43 20 = 0 → v3 = (optF (M0.1 142) len P2 43 20).1)) ?_ (fun M3 ⟨v3, R3, e3⟩ => ?_)
      · obtain ⟨z1, z2⟩ := h_58
        refine ⟨r_64, ?_, fun z => ?_⟩
        · rw [opP, opW, if_pos ⟨z1, z2⟩, if_pos ⟨z1, z2⟩]
          exact R_64.pe _ _
        · rw [opW, if_pos ⟨z1, z2⟩] at z
          rw [optF, if_pos z2, e_64 z, hsP, if_pos z1]
      refine z_aload_n F dX8_readPerson_72 rfl ?_
      refine z_dup F dX8_readPerson_73 rfl ?_
      refine zg_X8_manyPeople F (by with_reducible assumption) fl_X8_148 dX8_readPerson_74 ?_
      rw [R3.2.2.2.2.1]
      refine z_iconst (v := 1) F dX8_readPerson_77 (by decide) ?_
      refine z_iadd F dX8_readPerson_78 ?_
      refine zp_X8_manyPeople F (by with_reducible assumption) fl_X8_148 dX8_readPerson_79 ?_
      refine z_vret F X dX8_readPerson_82 ?_
      rw [nI_1]
      have R4 := R3.mp (m + 1)
      rcases per_end hq with ⟨t1, t2, t3⟩ | ⟨t1, t2, t3, t4, t5⟩
      · rw [t2, t3] at R4
        exact Or.inl ⟨t1, _, R4⟩
      · have e3' := e3 t3
        rw [t3, t4] at R4
        refine Or.inr ⟨t1, _, R4, ?_, ?_⟩
        · rw [peR_up2, peR_up1, peR_up0, t5, e_15 t2, e3']
        · rw [TR_up2, TR_up1, TR_up0, t5]
  · replace h_32 := bI_1.mp h_32
    try simp only [h.2.2.2.2.1] at h_32
    have hb := h_32
    obtain ⟨z1, z2⟩ := h_32
    have R29 := R_29
    rw [z1, hsP_0, nuP_0] at R29
    rw [nuP_0] at z2
    have l3 : rdP (M0.1 142) len (numF (M0.1 142) len p 11).2 61 ≤ len := rdP_le (numF_le hp) (by decide)
    refine z_aload_n F dX8_readPerson_35 rfl ?_
    refine z_callVi F (p_readHad J R29 hl h120 l3 hn (by omega)) zm_X8_readHad zv_X8_readHad ml_X8_151 (by with_reducible assumption) (by decide) rfl rfl rfl (Nat.le_of_ble_eq_true rfl) dX8_readPerson_36 (by omega) (fun r_36 M_36 h_36 => ?_)
    rw [TR_up0] at h_36
    refine z_goto (tgt := 44) F dX8_readPerson_39 (by decide) ?_
    refine z_iast10n (q := ((3 * m) + 1)) F (by with_reducible assumption) (by first | with_reducible rfl | (simp only [n4, n2, n3, n5, n14, n16, na1, na2, na3, nI_add, nI_1, nI_pred]; done) | (simp only [n4, n2, n3, n5, n14, n16, na1, na2, na3, nI_add, nI_1, nI_pred, Nat.add_assoc, Nat.add_comm, Nat.add_left_comm]; done)) (by rw [hz6]; omega) dX8_readPerson_44 ?_
    refine ZW_gen (fun M2 => ∃ W2 P2 v, (W2 = 0 ∨ W2 = 1) ∧ P2 ≤ len ∧ RS M0 M2 P2 W2 n m th (va_up (va_up rp (3 * m) r_15) (3 * m + 1) v) ∧ hadQ (M0.1 142) len p n m rp W2 P2 v) ?_ (fun M2 ⟨W2, P2, v, w2, l2, R2, hq⟩ => ?_)
    · have lf := freeF_le (L := M0.1 142) (len := len) (nt := nI n) (T := TR rp) (np := m) l3
      rcases h_36 with ⟨f1, R3⟩ | ⟨f1, R3, f2⟩
      · refine ⟨1, _, r_36, Or.inr rfl, lf, R3.pe _ _, Or.inl ⟨rfl, ?_, ?_⟩⟩
        · unfold perF; rw [if_neg (nuW_z z1), if_pos ⟨z2, f1⟩]
        · unfold perF; rw [if_neg (nuW_z z1), if_pos ⟨z2, f1⟩]
      · refine ⟨0, _, r_36, Or.inl rfl, lf, R3.pe _ _, Or.inr ⟨rfl, z1, ?_⟩⟩
        unfold perF
        rw [if_neg (nuW_z z1), if_neg (fun y => f1 y.2), if_pos z2, f2]
    refine z_aload_n F dX8_readPerson_45 rfl ?_
    refine zg_X8_readPeople F (by with_reducible assumption) fl_X8_25 dX8_readPerson_46 (fun hk_46 => ?_)
    refine z_iload_n F dX8_readPerson_49 rfl ?_
    refine z_iconst (v := 2) F dX8_readPerson_50 (by decide) ?_
    refine z_iadd F dX8_readPerson_51 ?_
    refine z_aload_n F dX8_readPerson_52 rfl ?_
    refine z_bipush (v := 43) F dX8_readPerson_53 (by decide) ?_
    refine z_callVi F (p_has J R2 hl h120 l2 w2) zm_X8_has zv_X8_has ml_X8_145 (by with_reducible assumption) (by decide) rfl rfl rfl (Nat.le_of_ble_eq_true rfl) dX8_readPerson_55 (by omega) (fun r_55 M_55 h_55 => ?_)
    obtain ⟨R_55, e_55⟩ := h_55
    subst e_55
    refine z_if_eq (tgt := 70) F dX8_readPerson_58 (by decide) (fun h_58 => ?_) (fun h_58 => ?_)
    · replace h_58 := bI_0.mp h_58
      try simp only [h.2.2.2.2.1] at h_58
      refine z_iconst (v := 0) F dX8_readPerson_70 (by decide) ?_
      refine z_iast10n (q := ((3 * m) + 2)) F (by with_reducible assumption) (by first | with_reducible rfl | (simp only [n4, n2, n3, n5, n14, n16, na1, na2, na3, nI_add, nI_1, nI_pred]; done) | (simp only [n4, n2, n3, n5, n14, n16, na1, na2, na3, nI_add, nI_1, nI_pred, Nat.add_assoc, Nat.add_comm, Nat.add_left_comm]; done)) (by rw [hz6]; omega) dX8_readPerson_71 ?_
      refine ZW_gen (fun M3 => ∃ v3, RS M0 M3 (opP (M0.1 142) len W2 P2 43 20) (opW (M0.1 142) len W2 P2 43 20) n m th (va_up (va_up (va_up rp (3 * m) r_15) (3 * m + 1) v) (3 * m + 2) v3) ∧ (opW (M0.1 142) len W2 P2 43 20 = 0 → v3 = (optF (M0.1 142) len P2 43 20).1)) ?_ (fun M3 ⟨v3, R3, e3⟩ => ?_)
      · refine ⟨0, ?_, fun z => ?_⟩
        · rw [opP, opW, if_neg h_58, if_neg h_58]
          exact R_55.pe _ _
        · rw [optF, if_neg (fun y => h_58 ⟨?_, y⟩)]
          rw [opW, if_neg h_58] at z
          exact z
      refine z_aload_n F dX8_readPerson_72 rfl ?_
      refine z_dup F dX8_readPerson_73 rfl ?_
      refine zg_X8_manyPeople F (by with_reducible assumption) fl_X8_148 dX8_readPerson_74 ?_
      rw [R3.2.2.2.2.1]
      refine z_iconst (v := 1) F dX8_readPerson_77 (by decide) ?_
      refine z_iadd F dX8_readPerson_78 ?_
      refine zp_X8_manyPeople F (by with_reducible assumption) fl_X8_148 dX8_readPerson_79 ?_
      refine z_vret F X dX8_readPerson_82 ?_
      rw [nI_1]
      have R4 := R3.mp (m + 1)
      rcases per_end hq with ⟨t1, t2, t3⟩ | ⟨t1, t2, t3, t4, t5⟩
      · rw [t2, t3] at R4
        exact Or.inl ⟨t1, _, R4⟩
      · have e3' := e3 t3
        rw [t3, t4] at R4
        refine Or.inr ⟨t1, _, R4, ?_, ?_⟩
        · rw [peR_up2, peR_up1, peR_up0, t5, e_15 t2, e3']
        · rw [TR_up2, TR_up1, TR_up0, t5]
    · replace h_58 := bI_1.mp h_58
      try simp only [h.2.2.2.2.1] at h_58
      refine z_aload_n F dX8_readPerson_61 rfl ?_
      refine z_bipush (v := 20) F dX8_readPerson_62 (by decide) ?_
      refine z_callVi F (p_numW J (h0 := 20) (hi := 20) R_55 hl h120 (hsP_le l2 (by decide)) w2 rfl (by decide)) zm_X8_number zv_X8_number ml_X8_142 (by with_reducible assumption) (by decide) rfl rfl rfl (Nat.le_of_ble_eq_true rfl) dX8_readPerson_64 (by omega) (fun r_64 M_64 h_64 => ?_)
      obtain ⟨R_64, e_64⟩ := h_64
      refine z_goto (tgt := 71) F dX8_readPerson_67 (by decide) ?_
      refine z_iast10n (q := ((3 * m) + 2)) F (by with_reducible assumption) (by first | with_reducible rfl | (simp only [n4, n2, n3, n5, n14, n16, na1, na2, na3, nI_add, nI_1, nI_pred]; done) | (simp only [n4, n2, n3, n5, n14, n16, na1, na2, na3, nI_add, nI_1, nI_pred, Nat.add_assoc, Nat.add_comm, Nat.add_left_comm]; done)) (by rw [hz6]; omega) dX8_readPerson_71 ?_
      refine ZW_gen (fun M3 => ∃ v3, RS M0 M3 (opP (M0.1 142) len W2 P2 43 20) (opW (M0.1 142) len W2 P2 43 20) n m th (va_up (va_up (va_up rp (3 * m) r_15) (3 * m + 1) v) (3 * m + 2) v3) ∧ (opW (M0.1 142) len W2 P2 43 20 = 0 → v3 = (optF (M0.1 142) len P2 43 20).1)) ?_ (fun M3 ⟨v3, R3, e3⟩ => ?_)
      · obtain ⟨z1, z2⟩ := h_58
        refine ⟨r_64, ?_, fun z => ?_⟩
        · rw [opP, opW, if_pos ⟨z1, z2⟩, if_pos ⟨z1, z2⟩]
          exact R_64.pe _ _
        · rw [opW, if_pos ⟨z1, z2⟩] at z
          rw [optF, if_pos z2, e_64 z, hsP, if_pos z1]
      refine z_aload_n F dX8_readPerson_72 rfl ?_
      refine z_dup F dX8_readPerson_73 rfl ?_
      refine zg_X8_manyPeople F (by with_reducible assumption) fl_X8_148 dX8_readPerson_74 ?_
      rw [R3.2.2.2.2.1]
      refine z_iconst (v := 1) F dX8_readPerson_77 (by decide) ?_
      refine z_iadd F dX8_readPerson_78 ?_
      refine zp_X8_manyPeople F (by with_reducible assumption) fl_X8_148 dX8_readPerson_79 ?_
      refine z_vret F X dX8_readPerson_82 ?_
      rw [nI_1]
      have R4 := R3.mp (m + 1)
      rcases per_end hq with ⟨t1, t2, t3⟩ | ⟨t1, t2, t3, t4, t5⟩
      · rw [t2, t3] at R4
        exact Or.inl ⟨t1, _, R4⟩
      · have e3' := e3 t3
        rw [t3, t4] at R4
        refine Or.inr ⟨t1, _, R4, ?_, ?_⟩
        · rw [peR_up2, peR_up1, peR_up0, t5, e_15 t2, e3']
        · rw [TR_up2, TR_up1, TR_up0, t5]
end
section
/-! the reference's road -/
theorem nxP_id (L : zF1) : ∀ (j p q : Nat), nxP L j p = q → nxP L (p + j - q) q = q := by
  intro j
  induction j with
  | zero =>
    intro p q h
    have h : p = q := h
    subst h
    rw [show p + 0 - p = 0 by omega]
    rfl
  | succ j ih =>
    intro p q h
    by_cases z : L p = 32
    · rw [nxP, if_pos z] at h
      have := ih (p + 1) q h
      rw [show p + (j + 1) - q = p + 1 + j - q by omega]
      exact this
    · have h2 := h
      rw [nxP, if_neg z] at h2
      subst h2
      rw [show p + (j + 1) - p = j + 1 by omega]
      exact h
theorem nxP_i2 (L : zF1) {len p : Nat} (hp : p ≤ len) : nxP L (len - nxP L (len - p) p) (nxP L (len - p) p) = nxP L (len - p) p := by
  have := nxP_id L (len - p) p _ rfl
  rw [show p + (len - p) - nxP L (len - p) p = len - nxP L (len - p) p by omega] at this
  exact this
theorem RS.hs {M M' : zM} {p n m : Nat} {wr a : Int32} {th pe : zF1} (h : RS (zs M 138 15 a) M' p wr n m th pe) (v : Int32) : RS (zs M 138 15 v) (zs M' 138 15 v) p wr n m th pe := by
  obtain ⟨⟨g1, g2, g3⟩, h2, h3, h4, h5, h6, h7⟩ := h
  refine ⟨⟨g1, fun b a1 a2 a3 => ?_, fun k hk => ?_⟩, ?_, ?_, ?_, ?_, (zs_off _ (by decide)).trans h6, (zs_off _ (by decide)).trans h7⟩
  · rw [zs_off _ a1, zs_off _ a1]
    have := g2 b a1 a2 a3
    rw [zs_off _ a1] at this
    exact this
  · by_cases e : k = 15
    · subst e; simp +decide only [zs_g, if_true]
    · have := g3 k hk
      rw [zs_g, if_neg (by omega)] at this
      rw [zs_g, if_neg (by omega), zs_g, if_neg (by omega)]
      exact this
  all_goals simp +decide only [zs_g, if_false]
  all_goals assumption
/-- what stands behind a road that was read -/
def FT (M M' : zM) (th rp : zF1) (n m : Nat) (hv : Int32) (t k : Nat) : Prop := M'.2 = M.2 ∧ (∀ b, b ≠ 138 → b ≠ 139 → b ≠ 140 → b ≠ 141 → b ≠ 143 → b ≠ 144 → M'.1 b = M.1 b) ∧ (M'.1 143 = th ∧ M'.1 144 = rp) ∧ (M'.1 138 0 = nI t ∧ M'.1 138 1 = nI k ∧ M'.1 138 10 = 0 ∧ M'.1 138 13 = nI n ∧ M'.1 138 14 = nI m ∧ M'.1 138 15 = hv ∧ M'.1 138 20 = 0) ∧ (∀ j, (2 ≤ j ∧ j < 10 ∨ 15 < j ∧ j ≠ 20) → M'.1 138 j = M.1 138 j) ∧ (∀ q, M'.1 139 q = if q < 4 * t then th q else M.1 139 q) ∧ (∀ q, q < 2 * k → M'.1 140 q = peR rp q) ∧ (M'.1 141 0 = -4 ∧ (∀ q, 1 ≤ q → q < 5 → M'.1 141 q = 0) ∧ (∀ j, j < k → M'.1 141 (5 + j) = TR rp (5 + j)) ∧ (∀ j, k ≤ j → j < 9 → M'.1 141 (5 + j) = -4))
theorem FT.t {M M' : zM} {th rp : zF1} {n m t k : Nat} {hv : Int32} (h : FT M M' th rp n m hv t k) : FT M (zs (za M' (138 + 1) (setF (M'.1 (138 + 1)) t (th (4 * t)) (th (4 * t + 1)) (th (4 * t + 2)) (th (4 * t + 3)))) 138 0 (nI (t + 1))) th rp n m hv (t + 1) k := by
  obtain ⟨h1, h2, ⟨h3, h3'⟩, ⟨f0, f1, f2, f3, f4, f5, f6⟩, h5, h6, h7, h8⟩ := h
  have e : ∀ b, b ≠ 138 → b ≠ 139 → (zs (za M' (138 + 1) (setF (M'.1 (138 + 1)) t (th (4 * t)) (th (4 * t + 1)) (th (4 * t + 2)) (th (4 * t + 3)))) 138 0 (nI (t + 1))).1 b = M'.1 b := fun b a1 a2 => by rw [zs_off _ a1, za_off _ a2]
  have e8 : ∀ j, j ≠ 0 → (zs (za M' (138 + 1) (setF (M'.1 (138 + 1)) t (th (4 * t)) (th (4 * t + 1)) (th (4 * t + 2)) (th (4 * t + 3)))) 138 0 (nI (t + 1))).1 138 j = M'.1 138 j := fun j hj => by rw [zs_g, if_neg (by omega), za_off _ (by decide)]
  refine ⟨h1, fun b a1 a2 a3 a4 a5 a6 => (e b a1 a2).trans (h2 b a1 a2 a3 a4 a5 a6), ⟨(e 143 (by decide) (by decide)).trans h3, (e 144 (by decide) (by decide)).trans h3'⟩, ⟨by simp +decide only [zs_g, if_true], ?_, ?_, ?_, ?_, ?_, ?_⟩, fun j hj => (e8 j (by omega)).trans (h5 j hj), fun q => ?_, fun q hq => ?_, ?_⟩
  · exact (e8 1 (by decide)).trans f1
  · exact (e8 10 (by decide)).trans f2
  · exact (e8 13 (by decide)).trans f3
  · exact (e8 14 (by decide)).trans f4
  · exact (e8 15 (by decide)).trans f5
  · exact (e8 20 (by decide)).trans f6
  · have e139 : (zs (za M' (138 + 1) (setF (M'.1 (138 + 1)) t (th (4 * t)) (th (4 * t + 1)) (th (4 * t + 2)) (th (4 * t + 3)))) 138 0 (nI (t + 1))).1 139 = setF (M'.1 139) t (th (4 * t)) (th (4 * t + 1)) (th (4 * t + 2)) (th (4 * t + 3)) := (zs_off _ (show 139 ≠ 138 by decide)).trans (za_at _ _ _)
    rw [e139, setF]
    simp only [va_g, h6]
    repeat' split
    all_goals first | rfl | omega | (subst_vars; rfl) | (congr 1; omega)
  · rw [e 140 (by decide) (by decide)]; exact h7 q hq
  · rw [e 141 (by decide) (by decide)]; exact h8
theorem FT.p {M M' : zM} {th rp : zF1} {n m t k : Nat} {hv : Int32} (h : FT M M' th rp n m hv t k) (hk : k < 8) : FT M (zs (zs (zs (zs M' (138 + 2) (2 * k) (rp (3 * k))) (138 + 2) (2 * k + 1) (rp (3 * k + 2))) (138 + 3) (5 + k) (rp (3 * k + 1))) 138 1 (nI (k + 1))) th rp n m hv t (k + 1) := by
  obtain ⟨h1, h2, ⟨h3, h3'⟩, ⟨f0, f1, f2, f3, f4, f5, f6⟩, h5, h6, h7, ⟨h8, h9, h10, h11⟩⟩ := h
  have e : ∀ b j, b ≠ 138 → b ≠ 140 → b ≠ 141 → (zs (zs (zs (zs M' (138 + 2) (2 * k) (rp (3 * k))) (138 + 2) (2 * k + 1) (rp (3 * k + 2))) (138 + 3) (5 + k) (rp (3 * k + 1))) 138 1 (nI (k + 1))).1 b j = M'.1 b j := fun b j a1 a2 a3 => by rw [zs_g, if_neg (by omega), zs_g, if_neg (by omega), zs_g, if_neg (by omega), zs_g, if_neg (by omega)]
  have e8 : ∀ j, j ≠ 1 → (zs (zs (zs (zs M' (138 + 2) (2 * k) (rp (3 * k))) (138 + 2) (2 * k + 1) (rp (3 * k + 2))) (138 + 3) (5 + k) (rp (3 * k + 1))) 138 1 (nI (k + 1))).1 138 j = M'.1 138 j := fun j hj => by rw [zs_g, if_neg (by omega), zs_g, if_neg (by omega), zs_g, if_neg (by omega), zs_g, if_neg (by omega)]
  have eT : ∀ j, (zs (zs (zs (zs M' (138 + 2) (2 * k) (rp (3 * k))) (138 + 2) (2 * k + 1) (rp (3 * k + 2))) (138 + 3) (5 + k) (rp (3 * k + 1))) 138 1 (nI (k + 1))).1 141 j = if j = 5 + k then rp (3 * k + 1) else M'.1 141 j := fun j => by
    rw [zs_g, if_neg (by omega), zs_g]
    by_cases z : j = 5 + k
    · rw [if_pos ⟨rfl, z⟩, if_pos z]
    · rw [if_neg (fun y => z y.2), if_neg z, zs_g, if_neg (by omega), zs_g, if_neg (by omega)]
  refine ⟨h1, fun b a1 a2 a3 a4 a5 a6 => (funext fun j => e b j a1 a3 a4).trans (h2 b a1 a2 a3 a4 a5 a6), ⟨(funext fun j => e 143 j (by decide) (by decide) (by decide)).trans h3, (funext fun j => e 144 j (by decide) (by decide) (by decide)).trans h3'⟩, ⟨(e8 0 (by decide)).trans f0, by simp +decide only [zs_g, if_true], (e8 10 (by decide)).trans f2, (e8 13 (by decide)).trans f3, (e8 14 (by decide)).trans f4, (e8 15 (by decide)).trans f5, (e8 20 (by decide)).trans f6⟩, fun j hj => (e8 j (by omega)).trans (h5 j hj), fun q => (e 139 q (by decide) (by decide) (by decide)).trans (h6 q), fun q hq => ?_, (eT 0).trans ((if_neg (by omega)).trans h8), fun q a1 a2 => (eT q).trans ((if_neg (by omega)).trans (h9 q a1 a2)), fun j hj => ?_, fun j a1 a2 => (eT _).trans ((if_neg (by omega)).trans (h11 j (by omega) a2))⟩
  · rw [zs_g, if_neg (by omega), zs_g, if_neg (by omega), zs_g]
    by_cases z : q = 2 * k + 1
    · rw [if_pos ⟨rfl, z⟩]
      unfold peR
      rw [if_neg (by omega), show q / 2 = k by omega]
    · rw [if_neg (fun y => z y.2), zs_g]
      by_cases z2 : q = 2 * k
      · rw [if_pos ⟨rfl, z2⟩]
        unfold peR
        rw [if_pos (by omega), show q / 2 = k by omega]
      · rw [if_neg (fun y => z2 y.2)]
        exact h7 q (by omega)
  · rw [eT]
    by_cases z : j = k
    · subst z; rw [if_pos rfl, TR_5]
    · rw [if_neg (by omega)]; exact h10 j (by omega)
/-- the reference's state behind a road that was read, by what was read -/
def RD (M M' : zM) (S : zRd) : Prop := M'.2 = M.2 ∧ (∀ b, b ≠ 138 → b ≠ 139 → b ≠ 140 → b ≠ 141 → b ≠ 143 → b ≠ 144 → M'.1 b = M.1 b) ∧ (M'.1 138 0 = nI S.1 ∧ M'.1 138 1 = nI S.2.2.1 ∧ M'.1 138 10 = 0 ∧ M'.1 138 20 = 0) ∧ (∀ j, (2 ≤ j ∧ j < 10 ∨ 15 < j ∧ j ≠ 20) → M'.1 138 j = M.1 138 j) ∧ (∀ q, M'.1 139 q = if q < 4 * S.1 then S.2.1 q else M.1 139 q) ∧ (∀ q, q < 2 * S.2.2.1 → M'.1 140 q = S.2.2.2.1 q) ∧ (M'.1 141 0 = S.2.2.2.2 0 ∧ (∀ q, 1 ≤ q → q < 5 → M'.1 141 q = 0) ∧ (∀ j, j < S.2.2.1 → M'.1 141 (5 + j) = S.2.2.2.2 (5 + j)) ∧ (∀ j, S.2.2.1 ≤ j → j < 9 → M'.1 141 (5 + j) = -4))
theorem FT.end {M M' : zM} {th rp : zF1} {n m : Nat} {hv : Int32} (h : FT M M' th rp n m hv n m) : RD M (zs M' (138 + 3) 0 hv) (n, th, m, peR rp, va_up (TR rp) 0 hv) := by
  obtain ⟨h1, h2, ⟨h3, h3'⟩, ⟨f0, f1, f2, f3, f4, f5, f6⟩, h5, h6, h7, ⟨h8, h9, h10, h11⟩⟩ := h
  have e : ∀ b j, (b ≠ 141 ∨ j ≠ 0) → (zs M' (138 + 3) 0 hv).1 b j = M'.1 b j := fun b j a => by rw [zs_g, if_neg (by omega)]
  refine ⟨h1, fun b a1 a2 a3 a4 a5 a6 => (funext fun j => e b j (Or.inl a4)).trans (h2 b a1 a2 a3 a4 a5 a6), ⟨(e 138 _ (by decide)).trans f0, (e 138 _ (by decide)).trans f1, (e 138 _ (by decide)).trans f2, (e 138 _ (by decide)).trans f6⟩, fun j hj => (e 138 _ (Or.inl (by decide))).trans (h5 j hj), fun q => (e 139 _ (Or.inl (by decide))).trans (h6 q), fun q hq => (e 140 _ (Or.inl (by decide))).trans (h7 q hq), ?_, fun q a1 a2 => (e 141 q (Or.inr (by omega))).trans (h9 q a1 a2), fun j hj => (e 141 _ (Or.inr (by omega))).trans ((h10 j hj).trans (va_up_ne _ _ (by omega)).symm), fun j a1 a2 => (e 141 _ (Or.inr (by omega))).trans (h11 j a1 a2)⟩
  show (zs M' (138 + 3) 0 hv).1 (138 + 3) 0 = va_up (TR rp) 0 hv 0
  rw [zs_at, va_up_self, va_up_self]
def RF (M M' : zM) : Prop := M'.2 = M.2 ∧ (∀ b, b ≠ 138 → b ≠ 143 → b ≠ 144 → M'.1 b = M.1 b) ∧ (∀ k, (k < 10 ∨ 15 < k) → M'.1 138 k = M.1 138 k) ∧ M'.1 138 10 = 0
end
section
/-! the reference's road, walked -/
theorem hisF_f {L : zF1} {len p : Nat} {nt : Int32} {T : zF1} {np : Nat} (h : ¬ rdB L len p 61) : hisF L len p nt T np = (0, rdP L len p 61, 0) := if_neg h
theorem hisF_n {L : zF1} {len p : Nat} {nt : Int32} {T : zF1} {np : Nat} (h : rdB L len p 61) (q : (freeF L len (rdP L len p 61) nt T np).1 < 0) : hisF L len p nt T np = (0, (freeF L len (rdP L len p 61) nt T np).2, 0) := by unfold hisF; rw [if_pos h, if_pos q]
theorem hisF_y {L : zF1} {len p : Nat} {nt : Int32} {T : zF1} {np : Nat} (h : rdB L len p 61) (q : ¬ (freeF L len (rdP L len p 61) nt T np).1 < 0) : hisF L len p nt T np = (1, (freeF L len (rdP L len p 61) nt T np).2, (freeF L len (rdP L len p 61) nt T np).1) := by unfold hisF; rw [if_pos h, if_neg q]
abbrev endQ (R : Int32 × Nat × zRd) (L : zF1) (len p n m : Nat) (th rp : zF1) (wr hv : Int32) : Prop := (wr = 1 ∧ R.1 = 0 ∧ R.2.1 = p) ∨ (wr = 0 ∧ R = endF L len p (n, th, m, peR rp, va_up (TR rp) 0 hv))
/-- what he has: told, or a fault -/
theorem his_n {R : Int32 × Nat × zRd} {L : zF1} {len p n m : Nat} {th rp : zF1} {hv : Int32} (hR : R = hisE L len p (n, th, m, peR rp, TR rp)) (h : rdB L len p 61) (q : (freeF L len (rdP L len p 61) (nI n) (TR rp) m).1 < 0) : endQ R L len (freeF L len (rdP L len p 61) (nI n) (TR rp) m).2 n m th rp 1 hv := by
  refine Or.inl ⟨rfl, ?_⟩
  rw [hR, hisE]
  dsimp only
  rw [hisF_n h q, if_pos rfl]
  exact ⟨rfl, rfl⟩
theorem his_f {R : Int32 × Nat × zRd} {L : zF1} {len p n m : Nat} {th rp : zF1} {hv : Int32} (hR : R = hisE L len p (n, th, m, peR rp, TR rp)) (h : ¬ rdB L len p 61) : endQ R L len (rdP L len p 61) n m th rp 1 hv := by
  refine Or.inl ⟨rfl, ?_⟩
  rw [hR, hisE]
  dsimp only
  rw [hisF_f h, if_pos rfl]
  exact ⟨rfl, rfl⟩
theorem his_y {R : Int32 × Nat × zRd} {L : zF1} {len p n m : Nat} {th rp : zF1} {hv : Int32} (hR : R = hisE L len p (n, th, m, peR rp, TR rp)) (h : rdB L len p 61) (q : ¬ (freeF L len (rdP L len p 61) (nI n) (TR rp) m).1 < 0) (e : hv = (freeF L len (rdP L len p 61) (nI n) (TR rp) m).1) : endQ R L len (freeF L len (rdP L len p 61) (nI n) (TR rp) m).2 n m th rp 0 hv := by
  refine Or.inr ⟨rfl, ?_⟩
  rw [hR, hisE]
  dsimp only
  rw [hisF_y h q, if_neg (show ¬ (1 : Int32) = 0 by decide), e]
theorem TR_id (rp : zF1) : va_up (TR rp) 0 (-4) = TR rp := va_up_id (TR rp) 0
theorem c_X8_road {l : Launch} {w : zE} (J : zJ w) {M : zM} {len : Nat} (hl : M.1 138 10 = nI len) (h120 : len ≤ 120) : zCi l w yX8_road cX8_road 3 (some .int) 3 [.ref (w.2.2 138)] M (fun r M2 => ((roadF (M.1 142) len (M.1 143) (peR (M.1 144)) (TR (M.1 144))).1 = 0 ∧ r = -20 - nI (roadF (M.1 142) len (M.1 143) (peR (M.1 144)) (TR (M.1 144))).2.1 ∧ RF M M2) ∨ (¬ (roadF (M.1 142) len (M.1 143) (peR (M.1 144)) (TR (M.1 144))).1 = 0 ∧ r = nI (roadF (M.1 142) len (M.1 143) (peR (M.1 144)) (TR (M.1 144))).2.2.1 ∧ RD M M2 (roadF (M.1 142) len (M.1 143) (peR (M.1 144)) (TR (M.1 144))).2.2)) := by
  have hk : zk 138 = 8 := by decide
  obtain ⟨hz1, hz2, hz3, hz4, hz5, hz6, hz7, hz8, hz9, hz10, hz11, hz12, hz13, hz14, hz15⟩ := zn8 (show 138 = 138 from rfl)
  refine zCi_of J zm_X8_road [some (.ref (w.2.2 138)), none, none] (Nat.le_of_ble_eq_true rfl) rfl (fun g hg F X => ?_)
  subst hg
  generalize hR : roadF (M.1 142) len (M.1 143) (peR (M.1 144)) (TR (M.1 144)) = R at X
  have hl2 : ∀ v, (zs M 138 15 v).1 138 10 = nI len := fun v => by simp +decide only [zs_g, if_false, hl]
  have hL2 : ∀ v, (zs M 138 15 v).1 142 = M.1 142 := fun v => zs_off _ (by decide)
  generalize hL : M.1 142 = L at hR hL2
  generalize hth0 : M.1 143 = th0 at hR
  generalize hrp0 : M.1 144 = rp0 at hR
  have lp4 : ∀ (n m : Nat) (th rp : zF1) (hv : Int32), m ≤ 8 → (∀ M', FT M M' th rp n m hv n m → ∀ lv, lv[0]? = some (some (.ref (w.2.2 138))) → ZW w g 3 344 lv [] M') → ∀ (j k : Nat) (g1 : Int32) (M' : zM), k + j = m → FT M M' th rp n m hv n k → ZW w g 3 298 [some (.ref (w.2.2 138)), some (.int g1), some (.int (nI k))] [] M' := by
    intro n m th rp hv hm K j
    induction j with
    | zero =>
      intro k g1 M' hkj f
      obtain rfl : k = m := by omega
      have f14 := f.2.2.2.1.2.2.2.2.1
      refine z_iload_n F dX8_road_298 rfl ?_
      refine z_aload_n F dX8_road_299 rfl ?_
      refine zg_X8_manyPeople F (by with_reducible assumption) fl_X8_148 dX8_road_300 ?_
      try simp only [f14]
      refine z_ic_ge (tgt := 344) F dX8_road_303 (by decide) (fun h_303 => ?_) (fun h_303 => absurd h_303 (nlt (Int32.le_refl _)))
      exact K _ f _ rfl
    | succ j ih =>
      intro k g1 M' hkj f
      have f14 := f.2.2.2.1.2.2.2.2.1
      have fr := f.2.2.1.2
      refine z_iload_n F dX8_road_298 rfl ?_
      refine z_aload_n F dX8_road_299 rfl ?_
      refine zg_X8_manyPeople F (by with_reducible assumption) fl_X8_148 dX8_road_300 ?_
      try simp only [f14, show M'.1 (138 + 6) = rp from fr, fr]
      refine z_ic_ge (tgt := 344) F dX8_road_303 (by decide) (fun h_303 => absurd h_303 (nle (nI_lt (by omega) (by omega)))) (fun h_303 => ?_)
      refine z_aload_n F dX8_road_306 rfl ?_
      refine z_aload_n F dX8_road_307 rfl ?_
      refine zg_X8_readPeople F (by with_reducible assumption) fl_X8_25 dX8_road_308 (fun hk_308 => ?_)
      refine z_iconst (v := 3) F dX8_road_311 (by decide) ?_
      refine z_iload_n F dX8_road_312 rfl ?_
      refine z_imul F dX8_road_313 ?_
      refine z_iald10n (q := (3 * k)) F (by with_reducible assumption) (by first | with_reducible rfl | (simp only [n4, n2, n3, n5, n14, n16, na1, na2, na3, nI_add, nI_1, nI_pred]; done) | (simp only [n4, n2, n3, n5, n14, n16, na1, na2, na3, nI_add, nI_1, nI_pred, Nat.add_assoc, Nat.add_comm, Nat.add_left_comm]; done)) (by rw [hz6]; omega) dX8_road_314 ?_
      try simp only [f14, show M'.1 (138 + 6) = rp from fr, fr]
      refine z_aload_n F dX8_road_315 rfl ?_
      refine zg_X8_readPeople F (by with_reducible assumption) fl_X8_25 dX8_road_316 (fun hk_316 => ?_)
      refine z_iconst (v := 3) F dX8_road_319 (by decide) ?_
      refine z_iload_n F dX8_road_320 rfl ?_
      refine z_imul F dX8_road_321 ?_
      refine z_iconst (v := 1) F dX8_road_322 (by decide) ?_
      refine z_iadd F dX8_road_323 ?_
      refine z_iald10n (q := ((3 * k) + 1)) F (by with_reducible assumption) (by first | with_reducible rfl | (simp only [n4, n2, n3, n5, n14, n16, na1, na2, na3, nI_add, nI_1, nI_pred]; done) | (simp only [n4, n2, n3, n5, n14, n16, na1, na2, na3, nI_add, nI_1, nI_pred, Nat.add_assoc, Nat.add_comm, Nat.add_left_comm]; done)) (by rw [hz6]; omega) dX8_road_324 ?_
      try simp only [f14, show M'.1 (138 + 6) = rp from fr, fr]
      refine z_aload_n F dX8_road_325 rfl ?_
      refine zg_X8_readPeople F (by with_reducible assumption) fl_X8_25 dX8_road_326 (fun hk_326 => ?_)
      refine z_iconst (v := 3) F dX8_road_329 (by decide) ?_
      refine z_iload_n F dX8_road_330 rfl ?_
      refine z_imul F dX8_road_331 ?_
      refine z_iconst (v := 2) F dX8_road_332 (by decide) ?_
      refine z_iadd F dX8_road_333 ?_
      refine z_iald10n (q := ((3 * k) + 2)) F (by with_reducible assumption) (by first | with_reducible rfl | (simp only [n4, n2, n3, n5, n14, n16, na1, na2, na3, nI_add, nI_1, nI_pred]; done) | (simp only [n4, n2, n3, n5, n14, n16, na1, na2, na3, nI_add, nI_1, nI_pred, Nat.add_assoc, Nat.add_comm, Nat.add_left_comm]; done)) (by rw [hz6]; omega) dX8_road_334 ?_
      try simp only [f14, show M'.1 (138 + 6) = rp from fr, fr]
      refine z_callVv F (c_X8_personComes J hk rfl f.2.2.2.1.2.1 (by omega)) zm_X8_personComes zv_X8_personComes ml_X8_107 (by with_reducible assumption) (by decide) rfl rfl rfl (Nat.le_of_ble_eq_true rfl) dX8_road_335 (by omega) (fun M_335 h_335 => ?_)
      replace h_335 := Eq.symm h_335
      subst h_335
      refine z_iincc (c := 1) (lv' := [_, _, _]) F dX8_road_338 rfl (by decide) (by decide) rfl rfl ?_
      refine z_goto (tgt := 298) F dX8_road_341 (by decide) ?_
      rw [nI_1]
      exact ih (k + 1) _ _ (by omega) (f.p (by omega))
  have lp3 : ∀ (n m : Nat) (th rp : zF1) (hv : Int32), n ≤ 10 → (∀ M', FT M M' th rp n m hv n 0 → ∀ g1 z, ZW w g 3 296 [some (.ref (w.2.2 138)), some (.int g1), some (.int z)] [] M') → ∀ (j k : Nat) (g1 : Int32) (M' : zM), k + j = n → FT M M' th rp n m hv k 0 → ZW w g 3 240 [some (.ref (w.2.2 138)), some (.int g1), some (.int (nI k))] [] M' := by
    intro n m th rp hv hm K j
    induction j with
    | zero =>
      intro k g1 M' hkj f
      obtain rfl : k = n := by omega
      have f13 := f.2.2.2.1.2.2.2.1
      refine z_iload_n F dX8_road_240 rfl ?_
      refine z_aload_n F dX8_road_241 rfl ?_
      refine zg_X8_manyThings F (by with_reducible assumption) fl_X8_139 dX8_road_242 ?_
      try simp only [f13]
      refine z_ic_ge (tgt := 296) F dX8_road_245 (by decide) (fun h_245 => ?_) (fun h_245 => absurd h_245 (nlt (Int32.le_refl _)))
      exact K _ f _ _
    | succ j ih =>
      intro k g1 M' hkj f
      have f13 := f.2.2.2.1.2.2.2.1
      have fr := f.2.2.1.1
      refine z_iload_n F dX8_road_240 rfl ?_
      refine z_aload_n F dX8_road_241 rfl ?_
      refine zg_X8_manyThings F (by with_reducible assumption) fl_X8_139 dX8_road_242 ?_
      try simp only [f13, show M'.1 (138 + 5) = th from fr, fr]
      refine z_ic_ge (tgt := 296) F dX8_road_245 (by decide) (fun h_245 => absurd h_245 (nle (nI_lt (by omega) (by omega)))) (fun h_245 => ?_)
      refine z_aload_n F dX8_road_248 rfl ?_
      refine z_aload_n F dX8_road_249 rfl ?_
      refine zg_X8_readThings F (by with_reducible assumption) fl_X8_22 dX8_road_250 (fun hk_250 => ?_)
      refine z_iconst (v := 4) F dX8_road_253 (by decide) ?_
      refine z_iload_n F dX8_road_254 rfl ?_
      refine z_imul F dX8_road_255 ?_
      refine z_iald10n (q := (4 * k)) F (by with_reducible assumption) (by first | with_reducible rfl | (simp only [n4, n2, n3, n5, n14, n16, na1, na2, na3, nI_add, nI_1, nI_pred]; done) | (simp only [n4, n2, n3, n5, n14, n16, na1, na2, na3, nI_add, nI_1, nI_pred, Nat.add_assoc, Nat.add_comm, Nat.add_left_comm]; done)) (by rw [hz5]; omega) dX8_road_256 ?_
      try simp only [f13, show M'.1 (138 + 5) = th from fr, fr]
      refine z_aload_n F dX8_road_257 rfl ?_
      refine zg_X8_readThings F (by with_reducible assumption) fl_X8_22 dX8_road_258 (fun hk_258 => ?_)
      refine z_iconst (v := 4) F dX8_road_261 (by decide) ?_
      refine z_iload_n F dX8_road_262 rfl ?_
      refine z_imul F dX8_road_263 ?_
      refine z_iconst (v := 1) F dX8_road_264 (by decide) ?_
      refine z_iadd F dX8_road_265 ?_
      refine z_iald10n (q := ((4 * k) + 1)) F (by with_reducible assumption) (by first | with_reducible rfl | (simp only [n4, n2, n3, n5, n14, n16, na1, na2, na3, nI_add, nI_1, nI_pred]; done) | (simp only [n4, n2, n3, n5, n14, n16, na1, na2, na3, nI_add, nI_1, nI_pred, Nat.add_assoc, Nat.add_comm, Nat.add_left_comm]; done)) (by rw [hz5]; omega) dX8_road_266 ?_
      try simp only [f13, show M'.1 (138 + 5) = th from fr, fr]
      refine z_aload_n F dX8_road_267 rfl ?_
      refine zg_X8_readThings F (by with_reducible assumption) fl_X8_22 dX8_road_268 (fun hk_268 => ?_)
      refine z_iconst (v := 4) F dX8_road_271 (by decide) ?_
      refine z_iload_n F dX8_road_272 rfl ?_
      refine z_imul F dX8_road_273 ?_
      refine z_iconst (v := 2) F dX8_road_274 (by decide) ?_
      refine z_iadd F dX8_road_275 ?_
      refine z_iald10n (q := ((4 * k) + 2)) F (by with_reducible assumption) (by first | with_reducible rfl | (simp only [n4, n2, n3, n5, n14, n16, na1, na2, na3, nI_add, nI_1, nI_pred]; done) | (simp only [n4, n2, n3, n5, n14, n16, na1, na2, na3, nI_add, nI_1, nI_pred, Nat.add_assoc, Nat.add_comm, Nat.add_left_comm]; done)) (by rw [hz5]; omega) dX8_road_276 ?_
      try simp only [f13, show M'.1 (138 + 5) = th from fr, fr]
      refine z_aload_n F dX8_road_277 rfl ?_
      refine zg_X8_readThings F (by with_reducible assumption) fl_X8_22 dX8_road_278 (fun hk_278 => ?_)
      refine z_iconst (v := 4) F dX8_road_281 (by decide) ?_
      refine z_iload_n F dX8_road_282 rfl ?_
      refine z_imul F dX8_road_283 ?_
      refine z_iconst (v := 3) F dX8_road_284 (by decide) ?_
      refine z_iadd F dX8_road_285 ?_
      refine z_iald10n (q := ((4 * k) + 3)) F (by with_reducible assumption) (by first | with_reducible rfl | (simp only [n4, n2, n3, n5, n14, n16, na1, na2, na3, nI_add, nI_1, nI_pred]; done) | (simp only [n4, n2, n3, n5, n14, n16, na1, na2, na3, nI_add, nI_1, nI_pred, Nat.add_assoc, Nat.add_comm, Nat.add_left_comm]; done)) (by rw [hz5]; omega) dX8_road_286 ?_
      try simp only [f13, show M'.1 (138 + 5) = th from fr, fr]
      refine z_callVv F (c_X8_thingComes J hk rfl f.2.2.2.1.1 (by omega)) zm_X8_thingComes zv_X8_thingComes ml_X8_85 (by with_reducible assumption) (by decide) rfl rfl rfl (Nat.le_of_ble_eq_true rfl) dX8_road_287 (by omega) (fun M_287 h_287 => ?_)
      replace h_287 := Eq.symm h_287
      subst h_287
      refine z_iincc (c := 1) (lv' := [_, _, _]) F dX8_road_290 rfl (by decide) (by decide) rfl rfl ?_
      refine z_goto (tgt := 240) F dX8_road_293 (by decide) ?_
      rw [nI_1]
      exact ih (k + 1) _ _ (by omega) f.t
  have E : ∀ (hv g1 wr : Int32) (lv2 : Option Value) (p n m : Nat) (th rp : zF1) (M' : zM), RS (zs M 138 15 hv) M' p wr n m th rp → p ≤ len → n ≤ 10 → m ≤ 8 → endQ R L len p n m th rp wr hv → ZW w g 3 181 [some (.ref (w.2.2 138)), some (.int g1), lv2] [] M' := by
    intro hv g1 wr lv2 p n m th rp M' r hp hn hm hq
    have fail : ∀ (M'' : zM) (q : Nat), RS (zs M 138 15 hv) M'' q 1 n m th rp → R.1 = 0 → R.2.1 = q → ZW w g 3 204 [some (.ref (w.2.2 138)), some (.int g1), lv2] [] M'' := by
      intro M'' q r2 a1 a2
      refine z_aload_n F dX8_road_204 rfl ?_
      refine z_iconst (v := 0) F dX8_road_205 (by decide) ?_
      refine zp_X8_taped F (by with_reducible assumption) fl_X8_121 dX8_road_206 ?_
      refine z_aload_n F dX8_road_209 rfl ?_
      refine zg_X8_wrong F (by with_reducible assumption) fl_X8_127 dX8_road_210 ?_
      try simp +decide only [zs_g, if_false, r2.2.1, r2.2.2.1]
      refine z_if_eq (tgt := 224) F dX8_road_213 (by decide) (fun h_213 => absurd h_213 (by decide)) (fun h_213 => ?_)
      refine z_bipush (v := (-20)) F dX8_road_216 (by decide) ?_
      refine z_aload_n F dX8_road_218 rfl ?_
      refine zg_X8_at F (by with_reducible assumption) fl_X8_124 dX8_road_219 ?_
      try simp +decide only [zs_g, if_false, r2.2.1, r2.2.2.1]
      refine z_isub F dX8_road_222 ?_
      refine z_iret F X dX8_road_223 ?_
      refine Or.inl ⟨a1, by rw [a2], ?_⟩
      obtain ⟨⟨b1, b2, b3⟩, _⟩ := r2
      refine ⟨b1, fun b c1 c2 c3 => ?_, fun k hk2 => ?_, by simp +decide only [zs_g, if_true]⟩
      · rw [zs_off _ c1, b2 b c1 c2 c3, zs_off _ c1]
      · rw [zs_g, if_neg (by omega), b3 k (by omega), zs_g, if_neg (by omega)]
    rcases hq with ⟨rfl, a1, a2⟩ | ⟨rfl, a1⟩
    · refine z_aload_n F dX8_road_181 rfl ?_
      refine z_aload_n F dX8_road_182 rfl ?_
      refine zg_X8_wrong F (by with_reducible assumption) fl_X8_127 dX8_road_183 ?_
      try simp only [r.2.2.1]
      refine z_if_ne (tgt := 196) F dX8_road_186 (by decide) (fun h_186 => ?_) (fun h_186 => absurd h_186 (by decide))
      refine z_iconst (v := 1) F dX8_road_196 (by decide) ?_
      refine z_goto (tgt := 201) F dX8_road_197 (by decide) ?_
      refine zp_X8_wrong F (by with_reducible assumption) fl_X8_127 (by decide) (by decide) dX8_road_201 ?_
      exact fail _ p (r.wr 1) a1 a2
    · have a3 : nxP L (len - p) p ≤ len := by have := nxP_le L (len - p) p; omega
      refine z_aload_n F dX8_road_181 rfl ?_
      refine z_aload_n F dX8_road_182 rfl ?_
      refine zg_X8_wrong F (by with_reducible assumption) fl_X8_127 dX8_road_183 ?_
      try simp only [r.2.2.1]
      refine z_if_ne (tgt := 196) F dX8_road_186 (by decide) (fun h_186 => absurd h_186 (by decide)) (fun h_186 => ?_)
      refine z_aload_n F dX8_road_189 rfl ?_
      refine z_callVi F (p_here J r (hl2 hv) h120 hp) zm_X8_here zv_X8_here ml_X8_131 (by with_reducible assumption) (by decide) rfl rfl rfl (Nat.le_of_ble_eq_true rfl) dX8_road_190 (by omega) (fun r_190 M_190 h_190 => ?_)
      obtain ⟨R_190, e_190⟩ := h_190
      rw [hL2] at R_190 e_190
      subst e_190
      refine z_if_eq (tgt := 200) F dX8_road_193 (by decide) (fun h_193 => ?_) (fun h_193 => ?_)
      · try simp only [r.2.2.1] at h_193
        refine z_iconst (v := 0) F dX8_road_200 (by decide) ?_
        refine zp_X8_wrong F (by with_reducible assumption) fl_X8_127 (by decide) (by decide) dX8_road_201 ?_
        have r2 := R_190.wr 0
        have a4 : R = (1, nxP L (len - p) p, (n, th, m, peR rp, va_up (TR rp) 0 hv)) := by rw [a1, endF, ← bI_t h_193]
        refine z_aload_n F dX8_road_204 rfl ?_
        refine z_iconst (v := 0) F dX8_road_205 (by decide) ?_
        refine zp_X8_taped F (by with_reducible assumption) fl_X8_121 dX8_road_206 ?_
        refine z_aload_n F dX8_road_209 rfl ?_
        refine zg_X8_wrong F (by with_reducible assumption) fl_X8_127 dX8_road_210 ?_
        simp +decide only [zs_g, if_false, if_true]
        refine z_if_eq (tgt := 224) F dX8_road_213 (by decide) (fun h_213 => ?_) (fun h_213 => absurd h_213 (by decide))
        refine z_aload_n F dX8_road_224 rfl ?_
        refine z_iconst (v := 0) F dX8_road_225 (by decide) ?_
        refine zp_X8_things F (by with_reducible assumption) fl_X8_69 dX8_road_226 ?_
        refine z_aload_n F dX8_road_229 rfl ?_
        refine z_iconst (v := 0) F dX8_road_230 (by decide) ?_
        refine zp_X8_people F (by with_reducible assumption) fl_X8_76 dX8_road_231 ?_
        refine z_aload_n F dX8_road_234 rfl ?_
        refine z_callVv F (c_X8_starts J hk rfl) zm_X8_starts zv_X8_starts ml_X8_63 (by with_reducible assumption) (by decide) rfl rfl rfl (Nat.le_of_ble_eq_true rfl) dX8_road_235 (by omega) (fun M_235 h_235 => ?_)
        replace h_235 := Eq.symm h_235
        subst h_235
        refine z_iconst (v := 0) F dX8_road_238 (by decide) ?_
        refine z_istore_n (lv' := [_, _, _]) F dX8_road_239 (by decide) rfl rfl ?_
        refine lp3 n m th rp hv hn (fun M3 f3 g3 z3 => ?_) n 0 _ _ (by omega) ?_
        · refine z_iconst (v := 0) F dX8_road_296 (by decide) ?_
          refine z_istore_n (lv' := [_, _, _]) F dX8_road_297 (by decide) rfl rfl ?_
          refine lp4 n m th rp hv hm (fun M4 f4 lv hlv => ?_) m 0 _ _ (by omega) f3
          refine z_aload_n F dX8_road_344 hlv ?_
          refine zg_X8_now F (by with_reducible assumption) fl_X8_16 dX8_road_345 (fun hk_345 => ?_)
          refine z_iconst (v := 0) F dX8_road_348 (by decide) ?_
          refine z_aload_n F dX8_road_349 hlv ?_
          refine zg_X8_his F (by with_reducible assumption) fl_X8_154 dX8_road_350 ?_
          rw [f4.2.2.2.1.2.2.2.2.2.1]
          refine z_iast10n (q := 0) F (by with_reducible assumption) rfl (by rw [hz3]; omega) dX8_road_353 ?_
          refine z_aload_n F dX8_road_354 hlv ?_
          refine zg_X8_things F (by with_reducible assumption) fl_X8_69 dX8_road_355 ?_
          rw [zs_off _ (show (138 : Nat) ≠ 138 + 3 by decide), f4.2.2.2.1.1]
          refine z_iret F X dX8_road_358 ?_
          rw [a4]
          exact Or.inr ⟨by show ¬ (1 : Int32) = 0; decide, rfl, f4.end⟩
        · obtain ⟨⟨b1, b2, b3⟩, c2, c3, c4, c5, c6, c7⟩ := r2
          have g15 : (zs M_190 138 12 0).1 138 15 = hv := by rw [b3 15 (by decide), zs_at, va_up_self]
          simp +decide only [zs_g, if_false] at g15 c4 c5
          rw [zs_off _ (by decide)] at c6 c7
          refine ⟨b1, fun b d1 d2 d3 d4 d5 d6 => ?_, ⟨?_, ?_⟩, ⟨?_, ?_, ?_, ?_, ?_, ?_, ?_⟩, fun j hj => ?_, fun q => ?_, fun q hq2 => absurd hq2 (by omega), ?_, fun q d1 d2 => ?_, fun j hj => absurd hj (by omega), fun j d1 d2 => ?_⟩
          · rw [zs_off _ d1, za_off _ d4, zs_off _ d1, zs_off _ d1, zs_off _ d1, zs_off _ d1]
            have := b2 b d1 d5 d6
            rw [zs_off _ d1, zs_off _ d1] at this
            exact this
          · rw [zs_off _ (by decide), za_off _ (by decide), zs_off _ (by decide), zs_off _ (by decide), zs_off _ (by decide), zs_off _ (by decide)]; exact c6
          · rw [zs_off _ (by decide), za_off _ (by decide), zs_off _ (by decide), zs_off _ (by decide), zs_off _ (by decide), zs_off _ (by decide)]; exact c7
          · rw [zs_g, if_neg (by decide), za_off _ (by decide)]; simp +decide only [zs_g, if_false, if_true]
          · rw [zs_g, if_neg (by decide), za_off _ (by decide)]; simp +decide only [zs_g, if_true]
          · rw [zs_g, if_neg (by decide), za_off _ (by decide)]; simp +decide only [zs_g, if_false, if_true]
          · rw [zs_g, if_neg (by decide), za_off _ (by decide)]; simp +decide only [zs_g, if_false]; exact c4
          · rw [zs_g, if_neg (by decide), za_off _ (by decide)]; simp +decide only [zs_g, if_false]; exact c5
          · rw [zs_g, if_neg (by decide), za_off _ (by decide)]; simp +decide only [zs_g, if_false]; exact g15
          · simp +decide only [zs_g, if_true]
          · have := b3 j (by omega)
            rw [zs_g, if_neg (by omega), zs_g, if_neg (by omega)] at this
            rw [zs_g, if_neg (by omega), za_off _ (by decide), zs_g, if_neg (by omega), zs_g, if_neg (by omega), zs_g, if_neg (by omega), zs_g, if_neg (by omega)]
            exact this
          · rw [if_neg (by omega), zs_off _ (by decide), za_off _ (by decide), zs_off _ (by decide), zs_off _ (by decide), zs_off _ (by decide), zs_off _ (by decide)]
            have := b2 139 (by decide) (by decide) (by decide)
            rw [zs_off _ (by decide), zs_off _ (by decide)] at this
            rw [this]
          · rw [zs_off _ (by decide), show (141 : Nat) = 138 + 3 from rfl, za_at]; rfl
          · rw [zs_off _ (by decide), show (141 : Nat) = 138 + 3 from rfl, za_at, startT, if_neg (by omega), if_pos (by omega)]
          · rw [zs_off _ (by decide), show (141 : Nat) = 138 + 3 from rfl, za_at, startT, if_neg (by omega), if_neg (by omega), if_pos (by omega)]
      · try simp only [r.2.2.1] at h_193
        refine z_iconst (v := 1) F dX8_road_196 (by decide) ?_
        refine z_goto (tgt := 201) F dX8_road_197 (by decide) ?_
        refine zp_X8_wrong F (by with_reducible assumption) fl_X8_127 (by decide) (by decide) dX8_road_201 ?_
        refine fail _ _ (R_190.wr 1) ?_ ?_
        · rw [a1, endF]; exact (bI_f h_193).symm
        · rw [a1, endF]
  have P124 : ∀ (g1 wr : Int32) (p n m : Nat) (th rp : zF1) (M' : zM), RS (zs M 138 15 (-4)) M' p wr n m th rp → p ≤ len → n ≤ 10 → m ≤ 8 → (wr = 1 ∧ R.1 = 0 ∧ R.2.1 = p ∨ wr = 0 ∧ R = roadH L len (p, m, peR rp, TR rp) n th) → ZW w g 3 124 [some (.ref (w.2.2 138)), some (.int g1), some (.int 0)] [] M' := by
    intro g1 wr p n m th rp M' r hp hn hm hq
    have w1 : wr = 0 ∨ wr = 1 := hq.elim (fun z => Or.inr z.1) (fun z => Or.inl z.1)
    have l3 : hsP L len wr p 59 ≤ len := hsP_le hp (by decide)
    have l4 : hsP L len wr (hsP L len wr p 59) 61 ≤ len := hsP_le l3 (by decide)
    refine z_iload_n F dX8_road_124 rfl ?_
    refine z_if_ne (tgt := 164) F dX8_road_125 (by decide) (fun h_125 => absurd h_125 (by decide)) (fun h_125 => ?_)
    refine z_aload_n F dX8_road_128 rfl ?_
    refine z_bipush (v := 59) F dX8_road_129 (by decide) ?_
    refine z_callVi F (p_has J r (hl2 _) h120 hp w1) zm_X8_has zv_X8_has ml_X8_145 (by with_reducible assumption) (by decide) rfl rfl rfl (Nat.le_of_ble_eq_true rfl) dX8_road_131 (by omega) (fun r_131 M_131 h_131 => ?_)
    obtain ⟨R_131, e_131⟩ := h_131
    rw [hL2] at R_131 e_131
    subst e_131
    refine z_if_eq (tgt := 164) F dX8_road_134 (by decide) (fun h_134 => ?_) (fun h_134 => ?_)
    · replace h_134 := bI_0.mp h_134
      refine z_aload_n F dX8_road_164 rfl ?_
      refine z_iload_n F dX8_road_165 rfl ?_
      refine z_if_eq (tgt := 176) F dX8_road_166 (by decide) (fun h_166 => ?_) (fun h_166 => absurd h_166 (by decide))
      refine z_bipush (v := (-4)) F dX8_road_176 (by decide) ?_
      refine zp_X8_his F (by with_reducible assumption) fl_X8_154 dX8_road_178 ?_
      refine E (-4) _ wr _ _ n m th rp _ (R_131.hs (-4)) l3 hn hm ?_
      rcases hq with ⟨rfl, q1, q2⟩ | ⟨rfl, q1⟩
      · rw [hsP_1]; exact Or.inl ⟨rfl, q1, q2⟩
      · rw [hsP_0]
        refine Or.inr ⟨rfl, ?_⟩
        rw [TR_id, q1, roadH, if_neg (fun y => h_134 ⟨rfl, y⟩)]
    · replace h_134 := bI_1.mp h_134
      obtain ⟨z1, z2⟩ := h_134
      rcases hq with ⟨q0, _⟩ | ⟨_, q1⟩
      · exact absurd (z1.symm.trans q0) (by decide)
      subst z1
      rw [roadH, if_pos z2] at q1
      rw [hsP_0] at R_131 l3 l4
      rw [hsP_0] at l4
      refine z_aload_n F dX8_road_137 rfl ?_
      refine z_bipush (v := 61) F dX8_road_138 (by decide) ?_
      refine z_callVi F (p_has J R_131 (hl2 _) h120 l3 w1) zm_X8_has zv_X8_has ml_X8_145 (by with_reducible assumption) (by decide) rfl rfl rfl (Nat.le_of_ble_eq_true rfl) dX8_road_140 (by omega) (fun r_140 M_140 h_140 => ?_)
      obtain ⟨R_140, e_140⟩ := h_140
      rw [hL2] at R_140 e_140
      subst e_140
      refine z_istore_n (lv' := [_, _, _]) F dX8_road_143 (by decide) rfl rfl ?_
      refine z_aload_n F dX8_road_144 rfl ?_
      refine z_aload_n F dX8_road_145 rfl ?_
      refine zg_X8_wrong F (by with_reducible assumption) fl_X8_127 dX8_road_146 ?_
      rw [R_140.2.2.1]
      refine z_if_ne (tgt := 156) F dX8_road_149 (by decide) (fun h_149 => absurd h_149 (by decide)) (fun h_149 => ?_)
      refine z_iload_n F dX8_road_152 rfl ?_
      refine z_if_ne (tgt := 160) F dX8_road_153 (by decide) (fun h_153 => ?_) (fun h_153 => ?_)
      · replace h_153 := bI_1.mp h_153
        rw [← bI_t h_153]
        rw [hsP_0] at R_140
        have z3 := h_153.2
        have R3 := R_140.wr 0
        refine z_iconst (v := 0) F dX8_road_160 (by decide) ?_
        refine zp_X8_wrong F (by with_reducible assumption) fl_X8_127 (by decide) (by decide) dX8_road_161 ?_
        refine z_aload_n F dX8_road_164 rfl ?_
        refine z_iload_n F dX8_road_165 rfl ?_
        refine z_if_eq (tgt := 176) F dX8_road_166 (by decide) (fun h_166 => absurd h_166 (by decide)) (fun h_166 => ?_)
        refine z_aload_n F dX8_road_169 rfl ?_
        refine z_callVi F (p_readHad J R3 (hl2 _) h120 l4 hn hm) zm_X8_readHad zv_X8_readHad ml_X8_151 (by with_reducible assumption) (by decide) rfl rfl rfl (Nat.le_of_ble_eq_true rfl) dX8_road_170 (by omega) (fun r_170 M_170 h_170 => ?_)
        rw [hL2] at h_170
        have lf := freeF_le (L := L) (len := len) (nt := nI n) (T := TR rp) (np := m) l4
        refine z_goto (tgt := 178) F dX8_road_173 (by decide) ?_
        refine zp_X8_his F (by with_reducible assumption) fl_X8_154 dX8_road_178 ?_
        rcases h_170 with ⟨f1, R4⟩ | ⟨f1, R4, f2⟩
        · exact E _ _ 1 _ _ n m th rp _ (R4.hs _) lf hn hm (his_n q1 z3 f1)
        · exact E _ _ 0 _ _ n m th rp _ (R4.hs _) lf hn hm (his_y q1 z3 f1 f2)
      · replace h_153 := bI_0.mp h_153
        refine z_iconst (v := 1) F dX8_road_156 (by decide) ?_
        refine z_goto (tgt := 161) F dX8_road_157 (by decide) ?_
        refine zp_X8_wrong F (by with_reducible assumption) fl_X8_127 (by decide) (by decide) dX8_road_161 ?_
        rw [← bI_f h_153]
        refine z_aload_n F dX8_road_164 rfl ?_
        refine z_iload_n F dX8_road_165 rfl ?_
        refine z_if_eq (tgt := 176) F dX8_road_166 (by decide) (fun _ => ?_) (fun z => absurd rfl z)
        refine z_bipush (v := (-4)) F dX8_road_176 (by decide) ?_
        refine zp_X8_his F (by with_reducible assumption) fl_X8_154 dX8_road_178 ?_
        rw [hsP_0] at R_140
        exact E (-4) _ 1 _ _ n m th rp _ ((R_140.wr 1).hs (-4)) l4 hn hm (his_f q1 (fun y => h_153 ⟨rfl, y⟩))
  have lp2 : ∀ (n : Nat) (th : zF1) (RY : Int32 × zY), n ≤ 10 → (∀ (g1 : Int32) (M' : zM), (RY.1 = 0 ∧ (∃ m rp, m ≤ 8 ∧ RS (zs M 138 15 (-4)) M' RY.2.1 1 n m th rp) ∨ ¬ RY.1 = 0 ∧ ∃ rp, RS (zs M 138 15 (-4)) M' RY.2.1 0 n RY.2.2.1 th rp ∧ peR rp = RY.2.2.2.1 ∧ TR rp = RY.2.2.2.2) → ZW w g 3 124 [some (.ref (w.2.2 138)), some (.int g1), some (.int 0)] [] M') → ∀ (j m p : Nat) (rp : zF1) (M' : zM), m + (j + 1) = 8 → p ≤ len → RS (zs M 138 15 (-4)) M' p 0 n m th rp → peoL L len (nI n) (j + 1) (p, m, peR rp, TR rp) = RY → ZW w g 3 89 [some (.ref (w.2.2 138)), some (.int 1), some (.int 0)] [] M' := by
    intro n th RY hn K j
    have ex : ∀ (M' : zM), (RY.1 = 0 ∧ (∃ m rp, m ≤ 8 ∧ RS (zs M 138 15 (-4)) M' RY.2.1 1 n m th rp) ∨ ¬ RY.1 = 0 ∧ ∃ rp, RS (zs M 138 15 (-4)) M' RY.2.1 0 n RY.2.2.1 th rp ∧ peR rp = RY.2.2.2.1 ∧ TR rp = RY.2.2.2.2) → ZW w g 3 89 [some (.ref (w.2.2 138)), some (.int 0), some (.int 0)] [] M' := by
      intro M' q
      refine z_iload_n F dX8_road_89 rfl ?_
      refine z_if_eq (tgt := 124) F dX8_road_90 (by decide) (fun h_90 => ?_) (fun h_90 => absurd h_90 (by decide))
      exact K _ M' q
    have fp : ∀ (p m : Nat) (rp : zF1) (M2 : zM), ((perF L len p (nI n) (TR rp) m).1 = 0 ∧ ∃ rp', RS (zs M 138 15 (-4)) M2 (perF L len p (nI n) (TR rp) m).2.1 1 n (m + 1) th rp') ∨ (¬ (perF L len p (nI n) (TR rp) m).1 = 0 ∧ ∃ rp', RS (zs M 138 15 (-4)) M2 (perF L len p (nI n) (TR rp) m).2.1 0 n (m + 1) th rp' ∧ peR rp' = va_up (va_up (peR rp) (2 * m) (perF L len p (nI n) (TR rp) m).2.2.1) (2 * m + 1) (perF L len p (nI n) (TR rp) m).2.2.2.1 ∧ TR rp' = va_up (TR rp) (5 + m) (perF L len p (nI n) (TR rp) m).2.2.2.2) → ∃ wr rp', (wr = 0 ∨ wr = 1) ∧ RS (zs M 138 15 (-4)) M2 (perF L len p (nI n) (TR rp) m).2.1 wr n (m + 1) th rp' ∧ (wr = 1 ∧ (perF L len p (nI n) (TR rp) m).1 = 0 ∨ wr = 0 ∧ ¬ (perF L len p (nI n) (TR rp) m).1 = 0 ∧ peR rp' = va_up (va_up (peR rp) (2 * m) (perF L len p (nI n) (TR rp) m).2.2.1) (2 * m + 1) (perF L len p (nI n) (TR rp) m).2.2.2.1 ∧ TR rp' = va_up (TR rp) (5 + m) (perF L len p (nI n) (TR rp) m).2.2.2.2) := by
      intro p m rp M2 q
      rcases q with ⟨a, rp', b⟩ | ⟨a, rp', b, c, d⟩
      · exact ⟨1, rp', Or.inr rfl, b, Or.inl ⟨rfl, a⟩⟩
      · exact ⟨0, rp', Or.inl rfl, b, Or.inr ⟨rfl, a, c, d⟩⟩
    induction j with
    | zero =>
      intro m p rp M' hm hp r hY
      obtain rfl : m = 7 := by omega
      rw [peoL] at hY
      dsimp only at hY
      refine z_iload_n F dX8_road_89 rfl ?_
      refine z_if_eq (tgt := 124) F dX8_road_90 (by decide) (fun h_90 => absurd h_90 (by decide)) (fun h_90 => ?_)
      refine z_aload_n F dX8_road_93 rfl ?_
      refine z_callVv F (p_readPerson J r (hl2 _) h120 hp hn (by omega)) zm_X8_readPerson zv_X8_readPerson ml_X8_160 (by with_reducible assumption) (by decide) rfl rfl rfl (Nat.le_of_ble_eq_true rfl) dX8_road_94 (by omega) (fun M_94 h_94 => ?_)
      rw [hL2] at h_94
      obtain ⟨wr, rp', w1, R', hc⟩ := fp p 7 rp _ h_94
      refine z_aload_n F dX8_road_97 rfl ?_
      refine zg_X8_manyPeople F (by with_reducible assumption) fl_X8_148 dX8_road_98 ?_
      rw [R'.2.2.2.2.1]
      refine z_bipush (v := 8) F dX8_road_101 (by decide) ?_
      refine z_ic_ge (tgt := 119) F dX8_road_103 (by decide) (fun h_103 => ?_) (fun h_103 => absurd h_103 (by decide))
      refine z_iconst (v := 0) F dX8_road_119 (by decide) ?_
      refine z_istore_n (lv' := [_, _, _]) F dX8_road_120 (by decide) rfl rfl ?_
      refine z_goto (tgt := 89) F dX8_road_121 (by decide) ?_
      refine ex _ ?_
      rcases hc with ⟨rfl, a⟩ | ⟨rfl, a, b, c⟩
      · rw [if_pos a] at hY
        subst hY
        exact Or.inl ⟨rfl, 8, rp', by omega, R'⟩
      · rw [if_neg a, if_pos rfl] at hY
        subst hY
        exact Or.inr ⟨by show ¬ (1 : Int32) = 0; decide, rp', R', b, c⟩
    | succ j ih =>
      intro m p rp M' hm hp r hY
      rw [peoL] at hY
      dsimp only at hY
      have l5 : (perF L len p (nI n) (TR rp) m).2.1 ≤ len := perF_le hp
      refine z_iload_n F dX8_road_89 rfl ?_
      refine z_if_eq (tgt := 124) F dX8_road_90 (by decide) (fun h_90 => absurd h_90 (by decide)) (fun h_90 => ?_)
      refine z_aload_n F dX8_road_93 rfl ?_
      refine z_callVv F (p_readPerson J r (hl2 _) h120 hp hn (by omega)) zm_X8_readPerson zv_X8_readPerson ml_X8_160 (by with_reducible assumption) (by decide) rfl rfl rfl (Nat.le_of_ble_eq_true rfl) dX8_road_94 (by omega) (fun M_94 h_94 => ?_)
      rw [hL2] at h_94
      obtain ⟨wr, rp', w1, R', hc⟩ := fp p m rp _ h_94
      refine z_aload_n F dX8_road_97 rfl ?_
      refine zg_X8_manyPeople F (by with_reducible assumption) fl_X8_148 dX8_road_98 ?_
      rw [R'.2.2.2.2.1]
      refine z_bipush (v := 8) F dX8_road_101 (by decide) ?_
      refine z_ic_ge (tgt := 119) F dX8_road_103 (by decide) (fun h_103 => absurd h_103 (nI_ge (b := 8) (by omega) (by decide))) (fun h_103 => ?_)
      refine z_aload_n F dX8_road_106 rfl ?_
      refine z_bipush (v := 44) F dX8_road_107 (by decide) ?_
      refine z_callVi F (p_has J R' (hl2 _) h120 l5 w1) zm_X8_has zv_X8_has ml_X8_145 (by with_reducible assumption) (by decide) rfl rfl rfl (Nat.le_of_ble_eq_true rfl) dX8_road_109 (by omega) (fun r_109 M_109 h_109 => ?_)
      obtain ⟨R_109, e_109⟩ := h_109
      rw [hL2] at R_109 e_109
      subst e_109
      refine z_if_eq (tgt := 119) F dX8_road_112 (by decide) (fun h_112 => ?_) (fun h_112 => ?_)
      · replace h_112 := bI_0.mp h_112
        refine z_iconst (v := 0) F dX8_road_119 (by decide) ?_
        refine z_istore_n (lv' := [_, _, _]) F dX8_road_120 (by decide) rfl rfl ?_
        refine z_goto (tgt := 89) F dX8_road_121 (by decide) ?_
        refine ex _ ?_
        rcases hc with ⟨rfl, a⟩ | ⟨rfl, a, b, c⟩
        · rw [if_pos a] at hY
          subst hY
          rw [hsP_1] at R_109
          exact Or.inl ⟨rfl, m + 1, rp', by omega, R_109⟩
        · rw [if_neg a, if_neg (by omega), if_neg (fun y => h_112 ⟨rfl, y⟩)] at hY
          subst hY
          rw [hsP_0] at R_109
          exact Or.inr ⟨by show ¬ (1 : Int32) = 0; decide, rp', R_109, b, c⟩
      · replace h_112 := bI_1.mp h_112
        refine z_iconst (v := 1) F dX8_road_115 (by decide) ?_
        refine z_goto (tgt := 120) F dX8_road_116 (by decide) ?_
        refine z_istore_n (lv' := [_, _, _]) F dX8_road_120 (by decide) rfl rfl ?_
        refine z_goto (tgt := 89) F dX8_road_121 (by decide) ?_
        obtain ⟨z1, z2⟩ := h_112
        rcases hc with ⟨z3, a⟩ | ⟨_, a, b, c⟩
        · exact absurd (z1.symm.trans z3) (by decide)
        subst z1
        rw [if_neg a, if_neg (by omega), if_pos z2, ← b, ← c] at hY
        rw [hsP_0] at R_109
        exact ih (m + 1) _ rp' _ (by omega) (rdP_le l5 (by decide)) R_109 hY
  have S63 : ∀ (g1 : Int32) (M' : zM), ((thiL L len 10 (0, 0, th0)).1 = 0 ∧ (∃ n th, n ≤ 10 ∧ RS (zs M 138 15 (-4)) M' (thiL L len 10 (0, 0, th0)).2.1 1 n 0 th rp0) ∨ ¬ (thiL L len 10 (0, 0, th0)).1 = 0 ∧ RS (zs M 138 15 (-4)) M' (thiL L len 10 (0, 0, th0)).2.1 0 (thiL L len 10 (0, 0, th0)).2.2.1 0 (thiL L len 10 (0, 0, th0)).2.2.2 rp0) → ZW w g 3 63 [some (.ref (w.2.2 138)), some (.int g1), none] [] M' := by
    intro g1 M' hq
    obtain ⟨lz1, lz2⟩ := thiL_le (L := L) (len := len) 10 (0, 0, th0) (Nat.zero_le _)
    rw [roadF] at hR
    generalize hRZ : thiL L len 10 (0, 0, th0) = RZ at hq hR lz1 lz2
    rcases hq with ⟨a1, n, th, hn, r⟩ | ⟨a1, r⟩
    · rw [if_pos a1] at hR
      refine z_aload_n F dX8_road_63 rfl ?_
      refine z_bipush (v := 59) F dX8_road_64 (by decide) ?_
      refine z_callVi F (p_has J r (hl2 _) h120 lz1 (Or.inr rfl)) zm_X8_has zv_X8_has ml_X8_145 (by with_reducible assumption) (by decide) rfl rfl rfl (Nat.le_of_ble_eq_true rfl) dX8_road_66 (by omega) (fun r_66 M_66 h_66 => ?_)
      obtain ⟨R_66, e_66⟩ := h_66
      rw [hL2] at R_66 e_66
      subst e_66
      refine z_if_eq (tgt := 181) F dX8_road_69 (by decide) (fun h_69 => ?_) (fun h_69 => ?_)
      · replace h_69 := bI_0.mp h_69
        rw [hsP_1] at R_66
        exact E (-4) _ 1 _ _ n 0 th rp0 _ R_66 lz1 hn (by omega) (Or.inl ⟨rfl, by rw [← hR], by rw [← hR]⟩)
      · replace h_69 := bI_1.mp h_69
        exact absurd h_69.1 (by decide)
    · rw [if_neg a1] at hR
      generalize hp0 : RZ.2.1 = p at r hR lz1
      generalize hn0 : RZ.2.2.1 = n at r hR lz2
      generalize ht0 : RZ.2.2.2 = th at r hR
      have hn : n ≤ 10 := by omega
      have lP : rdP L len p 59 ≤ len := rdP_le lz1 (by decide)
      have lQ : rdP L len (rdP L len p 59) 61 ≤ len := rdP_le lP (by decide)
      have id2 := nxP_i2 L lP
      refine z_aload_n F dX8_road_63 rfl ?_
      refine z_bipush (v := 59) F dX8_road_64 (by decide) ?_
      refine z_callVi F (p_has J r (hl2 _) h120 lz1 (Or.inl rfl)) zm_X8_has zv_X8_has ml_X8_145 (by with_reducible assumption) (by decide) rfl rfl rfl (Nat.le_of_ble_eq_true rfl) dX8_road_66 (by omega) (fun r_66 M_66 h_66 => ?_)
      obtain ⟨R_66, e_66⟩ := h_66
      rw [hL2] at R_66 e_66
      rw [hsP_0] at R_66
      subst e_66
      refine z_if_eq (tgt := 181) F dX8_road_69 (by decide) (fun h_69 => ?_) (fun h_69 => ?_)
      · replace h_69 := bI_0.mp h_69
        refine E (-4) _ 0 _ _ n 0 th rp0 _ R_66 lP hn (by omega) (Or.inr ⟨rfl, ?_⟩)
        rw [← hR, roadG, if_neg (fun y => h_69 ⟨rfl, y⟩), TR_id]
      · replace h_69 := bI_1.mp h_69
        have z1 := h_69.2
        rw [roadG, if_pos z1] at hR
        refine z_aload_n F dX8_road_72 rfl ?_
        refine z_bipush (v := 61) F dX8_road_73 (by decide) ?_
        refine z_callVi F (p_has J R_66 (hl2 _) h120 lP (Or.inl rfl)) zm_X8_has zv_X8_has ml_X8_145 (by with_reducible assumption) (by decide) rfl rfl rfl (Nat.le_of_ble_eq_true rfl) dX8_road_75 (by omega) (fun r_75 M_75 h_75 => ?_)
        obtain ⟨R_75, e_75⟩ := h_75
        rw [hL2] at R_75 e_75
        rw [hsP_0] at R_75
        subst e_75
        refine z_istore_n (lv' := [_, _, _]) F dX8_road_78 (by decide) rfl rfl ?_
        refine z_iload_n F dX8_road_79 rfl ?_
        refine z_if_ne (tgt := 87) F dX8_road_80 (by decide) (fun h_80 => ?_) (fun h_80 => ?_)
        · replace h_80 := bI_1.mp h_80
          rw [← bI_t h_80]
          have z2 : rdB L len (rdP L len p 59) 61 := h_80.2
          have z4 : chF L len (nxP L (len - rdP L len p 59) (rdP L len p 59)) = 61 := z2
          have z3 : rdB L len (nxP L (len - rdP L len p 59) (rdP L len p 59)) 61 := by
            show chF L len (nxP L (len - nxP L (len - rdP L len p 59) (rdP L len p 59)) (nxP L (len - rdP L len p 59) (rdP L len p 59))) = 61
            rw [id2]
            exact z4
          have z5 : rdP L len (nxP L (len - rdP L len p 59) (rdP L len p 59)) 61 = rdP L len (rdP L len p 59) 61 := by
            rw [show rdP L len (rdP L len p 59) 61 = nxP L (len - rdP L len p 59) (rdP L len p 59) + 1 from if_pos z2, show rdP L len (nxP L (len - rdP L len p 59) (rdP L len p 59)) 61 = nxP L (len - nxP L (len - rdP L len p 59) (rdP L len p 59)) (nxP L (len - rdP L len p 59) (rdP L len p 59)) + 1 from if_pos z3, id2]
          rw [z4, if_neg (by decide)] at hR
          have lf := freeF_le (L := L) (len := len) (nt := nI n) (T := TR rp0) (np := 0) lQ
          refine z_iconst (v := 0) F dX8_road_87 (by decide) ?_
          refine z_istore_n (lv' := [_, _, _]) F dX8_road_88 (by decide) rfl rfl ?_
          refine z_iload_n F dX8_road_89 rfl ?_
          refine z_if_eq (tgt := 124) F dX8_road_90 (by decide) (fun h_90 => ?_) (fun h_90 => absurd h_90 (by decide))
          refine z_iload_n F dX8_road_124 rfl ?_
          refine z_if_ne (tgt := 164) F dX8_road_125 (by decide) (fun h_125 => ?_) (fun h_125 => absurd h_125 (by decide))
          refine z_aload_n F dX8_road_164 rfl ?_
          refine z_iload_n F dX8_road_165 rfl ?_
          refine z_if_eq (tgt := 176) F dX8_road_166 (by decide) (fun h_166 => absurd h_166 (by decide)) (fun h_166 => ?_)
          refine z_aload_n F dX8_road_169 rfl ?_
          refine z_callVi F (p_readHad J R_75 (hl2 _) h120 lQ hn (by omega)) zm_X8_readHad zv_X8_readHad ml_X8_151 (by with_reducible assumption) (by decide) rfl rfl rfl (Nat.le_of_ble_eq_true rfl) dX8_road_170 (by omega) (fun r_170 M_170 h_170 => ?_)
          rw [hL2] at h_170
          refine z_goto (tgt := 178) F dX8_road_173 (by decide) ?_
          refine zp_X8_his F (by with_reducible assumption) fl_X8_154 dX8_road_178 ?_
          rcases h_170 with ⟨f1, R4⟩ | ⟨f1, R4, f2⟩
          · rw [← z5] at f1 R4 lf
            exact E _ _ 1 _ _ n 0 th rp0 _ (R4.hs _) lf hn (by omega) (his_n hR.symm z3 f1)
          · rw [← z5] at f1 R4 f2 lf
            exact E _ _ 0 _ _ n 0 th rp0 _ (R4.hs _) lf hn (by omega) (his_y hR.symm z3 f1 f2)
        · replace h_80 := bI_0.mp h_80
          rw [← bI_f h_80]
          have z2 : ¬ rdB L len (rdP L len p 59) 61 := fun y => h_80 ⟨rfl, y⟩
          have z3 : rdP L len (rdP L len p 59) 61 = nxP L (len - rdP L len p 59) (rdP L len p 59) := if_neg z2
          refine z_iconst (v := 1) F dX8_road_83 (by decide) ?_
          refine z_goto (tgt := 88) F dX8_road_84 (by decide) ?_
          refine z_istore_n (lv' := [_, _, _]) F dX8_road_88 (by decide) rfl rfl ?_
          rw [z3] at R_75 lQ
          obtain ⟨ly1, ly2⟩ := peoL_le (L := L) (len := len) (nt := nI n) 8 (nxP L (len - rdP L len p 59) (rdP L len p 59), 0, peR rp0, TR rp0) lQ
          refine lp2 n th _ hn (fun g2 M2 hc => ?_) 7 0 _ rp0 _ rfl lQ R_75 rfl
          by_cases hd : dgF (chF L len (nxP L (len - rdP L len p 59) (rdP L len p 59)))
          · rw [if_pos hd] at hR
            rcases hc with ⟨c1, m, rp, c2, c3⟩ | ⟨c1, rp, c3, c4, c5⟩
            · rw [if_pos c1] at hR
              exact P124 g2 1 _ n m th rp M2 c3 ly1 hn c2 (Or.inl ⟨rfl, by rw [← hR], by rw [← hR]⟩)
            · rw [if_neg c1] at hR
              refine P124 g2 0 _ n _ th rp M2 c3 ly1 hn (by omega) (Or.inr ⟨rfl, ?_⟩)
              rw [← hR, c4, c5]
          · rw [if_neg hd] at hR
            have nf : (numF L len (nxP L (len - rdP L len p 59) (rdP L len p 59)) 11) = (-1, nxP L (len - rdP L len p 59) (rdP L len p 59)) := by
              unfold numF
              rw [id2, if_neg hd]
            have pf : peoL L len (nI n) 8 (nxP L (len - rdP L len p 59) (rdP L len p 59), 0, peR rp0, TR rp0) = (0, (nxP L (len - rdP L len p 59) (rdP L len p 59), 0, peR rp0, TR rp0)) := by
              rw [peoL]
              dsimp only
              unfold perF
              rw [nf, if_pos (show (-1, nxP L (len - rdP L len p 59) (rdP L len p 59)).1 < (0 : Int32) from by show (-1 : Int32) < 0; decide), if_pos rfl]
            rw [pf] at hc
            have hf : ¬ rdB L len (nxP L (len - rdP L len p 59) (rdP L len p 59)) 61 := by
              show ¬ chF L len (nxP L (len - nxP L (len - rdP L len p 59) (rdP L len p 59)) (nxP L (len - rdP L len p 59) (rdP L len p 59))) = 61
              rw [id2]
              exact z2
            have hf2 : rdP L len (nxP L (len - rdP L len p 59) (rdP L len p 59)) 61 = nxP L (len - rdP L len p 59) (rdP L len p 59) := by
              rw [rdP, if_neg hf, id2]
            rcases hc with ⟨c1, m, rp, c2, c3⟩ | ⟨c1, _⟩
            · have hh := his_f (hv := -4) hR.symm hf
              rcases hh with ⟨_, h1, h2⟩ | ⟨h1, _⟩
              · exact P124 g2 1 _ n m th rp M2 c3 lQ hn c2 (Or.inl ⟨rfl, h1, by rw [h2, hf2]⟩)
              · exact absurd h1 (by decide)
            · exact absurd rfl c1
  have lp1 : ∀ (j n p : Nat) (th : zF1) (M' : zM), n + (j + 1) = 10 → p ≤ len → RS (zs M 138 15 (-4)) M' p 0 n 0 th rp0 → thiL L len (j + 1) (p, n, th) = thiL L len 10 (0, 0, th0) → ZW w g 3 28 [some (.ref (w.2.2 138)), some (.int 1), none] [] M' := by
    have ex : ∀ (M' : zM), ((thiL L len 10 (0, 0, th0)).1 = 0 ∧ (∃ n th, n ≤ 10 ∧ RS (zs M 138 15 (-4)) M' (thiL L len 10 (0, 0, th0)).2.1 1 n 0 th rp0) ∨ ¬ (thiL L len 10 (0, 0, th0)).1 = 0 ∧ RS (zs M 138 15 (-4)) M' (thiL L len 10 (0, 0, th0)).2.1 0 (thiL L len 10 (0, 0, th0)).2.2.1 0 (thiL L len 10 (0, 0, th0)).2.2.2 rp0) → ZW w g 3 28 [some (.ref (w.2.2 138)), some (.int 0), none] [] M' := by
      intro M' q
      refine z_iload_n F dX8_road_28 rfl ?_
      refine z_if_eq (tgt := 63) F dX8_road_29 (by decide) (fun h_29 => ?_) (fun h_29 => absurd h_29 (by decide))
      exact S63 _ M' q
    have fp : ∀ (p n : Nat) (th : zF1) (M2 : zM), (((thiF L len p).1 = 0 ∧ ∃ th', RS (zs M 138 15 (-4)) M2 (thiF L len p).2.1 1 (n + 1) 0 th' rp0) ∨ (¬ (thiF L len p).1 = 0 ∧ RS (zs M 138 15 (-4)) M2 (thiF L len p).2.1 0 (n + 1) 0 (setF th n (thiF L len p).2.2.1 (thiF L len p).2.2.2.1 (thiF L len p).2.2.2.2.1 (thiF L len p).2.2.2.2.2) rp0)) → ∃ wr th', (wr = 0 ∨ wr = 1) ∧ RS (zs M 138 15 (-4)) M2 (thiF L len p).2.1 wr (n + 1) 0 th' rp0 ∧ (wr = 1 ∧ (thiF L len p).1 = 0 ∨ wr = 0 ∧ ¬ (thiF L len p).1 = 0 ∧ th' = setF th n (thiF L len p).2.2.1 (thiF L len p).2.2.2.1 (thiF L len p).2.2.2.2.1 (thiF L len p).2.2.2.2.2) := by
      intro p n th M2 q
      rcases q with ⟨a, th', b⟩ | ⟨a, b⟩
      · exact ⟨1, th', Or.inr rfl, b, Or.inl ⟨rfl, a⟩⟩
      · exact ⟨0, _, Or.inl rfl, b, Or.inr ⟨rfl, a, rfl⟩⟩
    generalize hRZ : thiL L len 10 (0, 0, th0) = RZ at ex
    intro j
    induction j with
    | zero =>
      intro n p th M' hn hp r hZ
      obtain rfl : n = 9 := by omega
      rw [thiL] at hZ
      dsimp only at hZ
      refine z_iload_n F dX8_road_28 rfl ?_
      refine z_if_eq (tgt := 63) F dX8_road_29 (by decide) (fun h_29 => absurd h_29 (by decide)) (fun h_29 => ?_)
      refine z_aload_n F dX8_road_32 rfl ?_
      refine z_callVv F (p_readThing J r (hl2 _) h120 hp (by omega)) zm_X8_readThing zv_X8_readThing ml_X8_157 (by with_reducible assumption) (by decide) rfl rfl rfl (Nat.le_of_ble_eq_true rfl) dX8_road_33 (by omega) (fun M_33 h_33 => ?_)
      rw [hL2] at h_33
      obtain ⟨wr, th', w1, R', hc⟩ := fp p 9 th _ h_33
      refine z_aload_n F dX8_road_36 rfl ?_
      refine zg_X8_manyThings F (by with_reducible assumption) fl_X8_139 dX8_road_37 ?_
      rw [R'.2.2.2.1]
      refine z_bipush (v := 10) F dX8_road_40 (by decide) ?_
      refine z_ic_ge (tgt := 58) F dX8_road_42 (by decide) (fun h_42 => ?_) (fun h_42 => absurd h_42 (by decide))
      refine z_iconst (v := 0) F dX8_road_58 (by decide) ?_
      refine z_istore_n (lv' := [_, _, _]) F dX8_road_59 (by decide) rfl rfl ?_
      refine z_goto (tgt := 28) F dX8_road_60 (by decide) ?_
      refine ex _ ?_
      rcases hc with ⟨rfl, a⟩ | ⟨rfl, a, rfl⟩
      · rw [if_pos a] at hZ
        subst hZ
        exact Or.inl ⟨rfl, 10, th', by omega, R'⟩
      · rw [if_neg a, if_pos rfl] at hZ
        subst hZ
        exact Or.inr ⟨by show ¬ (1 : Int32) = 0; decide, R'⟩
    | succ j ih =>
      intro n p th M' hn hp r hZ
      rw [thiL] at hZ
      dsimp only at hZ
      have l5 : (thiF L len p).2.1 ≤ len := thiF_le hp
      refine z_iload_n F dX8_road_28 rfl ?_
      refine z_if_eq (tgt := 63) F dX8_road_29 (by decide) (fun h_29 => absurd h_29 (by decide)) (fun h_29 => ?_)
      refine z_aload_n F dX8_road_32 rfl ?_
      refine z_callVv F (p_readThing J r (hl2 _) h120 hp (by omega)) zm_X8_readThing zv_X8_readThing ml_X8_157 (by with_reducible assumption) (by decide) rfl rfl rfl (Nat.le_of_ble_eq_true rfl) dX8_road_33 (by omega) (fun M_33 h_33 => ?_)
      rw [hL2] at h_33
      obtain ⟨wr, th', w1, R', hc⟩ := fp p n th _ h_33
      refine z_aload_n F dX8_road_36 rfl ?_
      refine zg_X8_manyThings F (by with_reducible assumption) fl_X8_139 dX8_road_37 ?_
      rw [R'.2.2.2.1]
      refine z_bipush (v := 10) F dX8_road_40 (by decide) ?_
      refine z_ic_ge (tgt := 58) F dX8_road_42 (by decide) (fun h_42 => absurd h_42 (nI_ge (b := 10) (by omega) (by decide))) (fun h_42 => ?_)
      refine z_aload_n F dX8_road_45 rfl ?_
      refine z_bipush (v := 44) F dX8_road_46 (by decide) ?_
      refine z_callVi F (p_has J R' (hl2 _) h120 l5 w1) zm_X8_has zv_X8_has ml_X8_145 (by with_reducible assumption) (by decide) rfl rfl rfl (Nat.le_of_ble_eq_true rfl) dX8_road_48 (by omega) (fun r_48 M_48 h_48 => ?_)
      obtain ⟨R_48, e_48⟩ := h_48
      rw [hL2] at R_48 e_48
      subst e_48
      refine z_if_eq (tgt := 58) F dX8_road_51 (by decide) (fun h_51 => ?_) (fun h_51 => ?_)
      · replace h_51 := bI_0.mp h_51
        refine z_iconst (v := 0) F dX8_road_58 (by decide) ?_
        refine z_istore_n (lv' := [_, _, _]) F dX8_road_59 (by decide) rfl rfl ?_
        refine z_goto (tgt := 28) F dX8_road_60 (by decide) ?_
        refine ex _ ?_
        rcases hc with ⟨rfl, a⟩ | ⟨rfl, a, rfl⟩
        · rw [if_pos a] at hZ
          subst hZ
          rw [hsP_1] at R_48
          exact Or.inl ⟨rfl, n + 1, th', by omega, R_48⟩
        · rw [if_neg a, if_neg (by omega), if_neg (fun y => h_51 ⟨rfl, y⟩)] at hZ
          subst hZ
          rw [hsP_0] at R_48
          exact Or.inr ⟨by show ¬ (1 : Int32) = 0; decide, R_48⟩
      · replace h_51 := bI_1.mp h_51
        refine z_iconst (v := 1) F dX8_road_54 (by decide) ?_
        refine z_goto (tgt := 59) F dX8_road_55 (by decide) ?_
        refine z_istore_n (lv' := [_, _, _]) F dX8_road_59 (by decide) rfl rfl ?_
        refine z_goto (tgt := 28) F dX8_road_60 (by decide) ?_
        obtain ⟨z1, z2⟩ := h_51
        rcases hc with ⟨z3, a⟩ | ⟨_, a, b⟩
        · exact absurd (z1.symm.trans z3) (by decide)
        subst z1
        subst b
        rw [if_neg a, if_neg (by omega), if_pos z2] at hZ
        rw [hsP_0] at R_48
        exact ih (n + 1) _ _ _ (by omega) (rdP_le l5 (by decide)) R_48 hZ
  refine z_aload_n F dX8_road_0 rfl ?_
  refine z_iconst (v := 0) F dX8_road_1 (by decide) ?_
  refine zp_X8_at F (by with_reducible assumption) fl_X8_124 dX8_road_2 ?_
  refine z_aload_n F dX8_road_5 rfl ?_
  refine z_iconst (v := 0) F dX8_road_6 (by decide) ?_
  refine zp_X8_wrong F (by with_reducible assumption) fl_X8_127 (by decide) (by decide) dX8_road_7 ?_
  refine z_aload_n F dX8_road_10 rfl ?_
  refine z_iconst (v := 0) F dX8_road_11 (by decide) ?_
  refine zp_X8_manyThings F (by with_reducible assumption) fl_X8_139 dX8_road_12 ?_
  refine z_aload_n F dX8_road_15 rfl ?_
  refine z_iconst (v := 0) F dX8_road_16 (by decide) ?_
  refine zp_X8_manyPeople F (by with_reducible assumption) fl_X8_148 dX8_road_17 ?_
  refine z_aload_n F dX8_road_20 rfl ?_
  refine z_bipush (v := (-4)) F dX8_road_21 (by decide) ?_
  refine zp_X8_his F (by with_reducible assumption) fl_X8_154 dX8_road_23 ?_
  refine z_iconst (v := 1) F dX8_road_26 (by decide) ?_
  refine z_istore_n (lv' := [_, _, _]) F dX8_road_27 (by decide) rfl rfl ?_
  refine lp1 9 0 0 th0 _ (by omega) (Nat.zero_le _) ?_ rfl
  refine ⟨⟨rfl, fun b a1 a2 a3 => ?_, fun k hk2 => ?_⟩, ?_, ?_, ?_, ?_, ?_, ?_⟩
  · simp only [zs_off _ a1]
  · by_cases e : k = 15
    · subst e; simp +decide only [zs_g, if_true]
    · rw [zs_g, if_neg (by omega), zs_g, if_neg (by omega), zs_g, if_neg (by omega), zs_g, if_neg (by omega), zs_g, if_neg (by omega), zs_g, if_neg (by omega)]
  · simp +decide only [zs_g, if_false, if_true]
  · simp +decide only [zs_g, if_false, if_true]
  · simp +decide only [zs_g, if_false, if_true]
  · simp +decide only [zs_g, if_false, if_true]
  · rw [zs_off _ (by decide), zs_off _ (by decide), zs_off _ (by decide), zs_off _ (by decide), zs_off _ (by decide)]; exact hth0
  · rw [zs_off _ (by decide), zs_off _ (by decide), zs_off _ (by decide), zs_off _ (by decide), zs_off _ (by decide)]; exact hrp0
end
section
/-! the sister's road back, the reference's -/
def cA (pe : zF1) (i : Nat) : Nat → Nat
  | 0 => 0
  | k + 1 => cA pe i k + if pe (2 * k) = nI i then 1 else 0
def cS (pe : zF1) (k : Nat) : Nat → Nat
  | 0 => 0
  | i + 1 => cS pe k i + cA pe i k
def cE (x : Int32) : Nat → Nat
  | 0 => 0
  | i + 1 => cE x i + if x = nI i then 1 else 0
theorem cE_1 (x : Int32) : ∀ i, i ≤ 12 → cE x i ≤ 1 ∧ (cE x i ≠ 0 → ∃ m, m < i ∧ x = nI m) := by
  intro i
  induction i with
  | zero => intro _; exact ⟨Nat.zero_le _, fun h => absurd rfl h⟩
  | succ i ih =>
    intro h
    obtain ⟨h1, h2⟩ := ih (by omega)
    rw [cE]
    by_cases z : x = nI i
    · rw [if_pos z]
      by_cases y : cE x i = 0
      · exact ⟨by omega, fun _ => ⟨i, by omega, z⟩⟩
      · obtain ⟨m, m1, m2⟩ := h2 y
        have := (nI_eq (by omega) (by omega)).mp (m2.symm.trans z)
        omega
    · rw [if_neg z]
      exact ⟨by omega, fun y => by obtain ⟨m, m1, m2⟩ := h2 (by omega); exact ⟨m, by omega, m2⟩⟩
theorem cS_s (pe : zF1) (k : Nat) : ∀ i, cS pe (k + 1) i = cS pe k i + cE (pe (2 * k)) i := by
  intro i
  induction i with
  | zero => rfl
  | succ i ih => rw [cS, ih, cS, cE, cA]; omega
theorem cS_le (pe : zF1) {i : Nat} (h : i ≤ 12) : ∀ k, cS pe k i ≤ k := by
  intro k
  induction k with
  | zero =>
    have : ∀ i, cS pe 0 i = 0 := fun i => by
      induction i with
      | zero => rfl
      | succ i ih => rw [cS, ih, cA]
    rw [this]
    exact Nat.zero_le _
  | succ k ih => rw [cS_s]; have := (cE_1 (pe (2 * k)) i h).1; omega
theorem add_m1 (x : Int32) : x + (-1) = x - 1 := (Int32.sub_eq_add_neg x 1).symm
abbrev mtsOK (np : Nat) (f : zF1) (n : Nat) : Prop := ∀ k, k < n → ∃ p, p < np ∧ f k = nI p
def wOK (nt : Nat) (th : zF1) : Prop := ∀ j, j < nt → ∃ v, v ≤ 99 ∧ th (4 * j + 1) = nI v
def mOK (np : Nat) (pe : zF1) : Prop := ∀ p, p < np → ∃ v, v ≤ 20 ∧ pe (2 * p + 1) = nI v
theorem sh0 (x : Int32) : ¬ ((0 : Int32) >>> (x &&& 31) &&& 1) = 1 := fun h => by
  have := coin_0 x
  rw [coinF, h] at this
  exact absurd this (by decide)
theorem c_X8_sisters {l : Launch} {w : zE} (J : zJ w) {M : zM} {o nt np t0 : Nat} {kk : Int32} (hk : zk o = 8) (ho : o = 138) (h10 : nt ≤ 10) (hnp : M.1 o 1 = nI np) (h8 : np ≤ 8) (tv : tv9 nt (M.1 (o + 3))) (hW : wOK nt (M.1 (o + 1))) (hG : mOK np (M.1 (o + 2))) (ht : t0 < nt) : zCi l w yX8_sisters cX8_sisters 13 (some .int) 1 [.ref (w.2.2 o), .int (nI t0), .int kk] M (fun r M2 => (∃ f, M2 = za M (o + 9) f) ∧ r = if kk = 0 then wrt (M.1 (o + 1)) (nI t0) else 0) := by
  obtain ⟨hz1, hz2, hz3, hz4, hz5, hz6, hz7, hz8, hz9, hz10, hz11, hz12, hz13, hz14, hz15⟩ := zn8 ho
  obtain ⟨tv0, tv5, _⟩ := tv
  have e0 : ∀ f, (za M (o + 9) f).1 o 1 = nI np := fun f => by rw [za_off _ (by omega)]; exact hnp
  have e1 : ∀ f, (za M (o + 9) f).1 (o + 1) = M.1 (o + 1) := fun f => za_off _ (by omega)
  have e2 : ∀ f, (za M (o + 9) f).1 (o + 2) = M.1 (o + 2) := fun f => za_off _ (by omega)
  have e3 : ∀ f, (za M (o + 9) f).1 (o + 3) = M.1 (o + 3) := fun f => za_off _ (by omega)
  have e9 : ∀ f, (za M (o + 9) f).1 (o + 9) = f := fun f => za_at _ _ _
  obtain ⟨u0, hu0, ew0⟩ := hW t0 ht
  have wt : wrt (M.1 (o + 1)) (nI t0) = nI u0 := by rw [wrt_n _ (by omega), ew0]
  refine zCi_of J zm_X8_sisters [some (.ref (w.2.2 o)), some (.int (nI t0)), some (.int kk), none, none, none, none, none, none, none, none, none, none] (Nat.le_of_ble_eq_true rfl) rfl (fun g hg F X => ?_)
  subst hg
  have fin : ∀ (n : Nat) (f : zF1) (best : Int32) (lv6 lv7 lv8 lv9 lv10 lv11 lv12 : Option Value), best = 0 → ZW w g 13 240 [some (.ref (w.2.2 o)), some (.int (nI t0)), some (.int kk), some (.int (nI n)), some (.int (wrt (M.1 (o + 1)) (nI t0))), some (.int best), lv6, lv7, lv8, lv9, lv10, lv11, lv12] [] (za M (o + 9) f) := by
    intro n f best lv6 lv7 lv8 lv9 lv10 lv11 lv12 hb
    subst hb
    refine z_iload_n F dX8_sisters_240 rfl ?_
    refine z_if_ne (tgt := 249) F dX8_sisters_241 (by decide) (fun h_241 => ?_) (fun h_241 => ?_)
    · refine z_iload F dX8_sisters_249 rfl ?_
      refine z_iret F X dX8_sisters_251 ?_
      exact ⟨⟨f, rfl⟩, (if_neg h_241).symm⟩
    · refine z_iload F dX8_sisters_244 rfl ?_
      refine z_goto (tgt := 251) F dX8_sisters_246 (by decide) ?_
      refine z_iret F X dX8_sisters_251 ?_
      exact ⟨⟨f, rfl⟩, (if_pos h_241).symm⟩
  have rows : ∀ (n : Nat) (f : zF1), n ≤ 8 → mtsOK np f n → ∀ (j r : Nat) (most best : Int32) (lv7 lv8 lv9 lv10 lv11 lv12 : Option Value), r + j = 2 ^ n → (r = 0 ∧ most = -1 ∧ best = 0 ∨ 0 < r ∧ most = wrt (M.1 (o + 1)) (nI t0) ∧ best = 0) → ZW w g 13 70 [some (.ref (w.2.2 o)), some (.int (nI t0)), some (.int kk), some (.int (nI n)), some (.int most), some (.int best), some (.int (nI r)), lv7, lv8, lv9, lv10, lv11, lv12] [] (za M (o + 9) f) := by
    intro n f hn8 hf j
    have p2 : 2 ^ n ≤ 256 := Nat.le_trans (Nat.pow_le_pow_right (by decide) hn8) (by decide)
    have p0 : 0 < 2 ^ n := Nat.two_pow_pos n
    have sh := pw_sh n (by omega)
    induction j with
    | zero =>
      intro r most best lv7 lv8 lv9 lv10 lv11 lv12 hr hm
      obtain rfl : r = 2 ^ n := by omega
      rcases hm with ⟨h0, _⟩ | ⟨_, rfl, hb⟩
      · omega
      refine z_iload F dX8_sisters_70 rfl ?_
      refine z_iconst (v := 1) F dX8_sisters_72 (by decide) ?_
      refine z_iload_n F dX8_sisters_73 rfl ?_
      refine z_ishl F dX8_sisters_74 ?_
      rw [sh]
      refine z_ic_ge (tgt := 240) F dX8_sisters_75 (by decide) (fun h_75 => ?_) (fun h_75 => absurd h_75 (nlt (Int32.le_refl _)))
      exact fin n f best _ _ _ _ _ _ _ hb
    | succ j ih =>
      intro r most best lv7 lv8 lv9 lv10 lv11 lv12 hr hm
      have K0 : ∀ (own set k : Int32) (lv11 lv12 : Option Value), 0 < r → ZW w g 13 206 [some (.ref (w.2.2 o)), some (.int (nI t0)), some (.int kk), some (.int (nI n)), some (.int most), some (.int best), some (.int (nI r)), some (.int own), some (.int set), some (.int 0), some (.int k), lv11, lv12] [] (za M (o + 9) f) := by
        intro own set k lv11 lv12 hr0
        refine z_iload F dX8_sisters_206 rfl ?_
        refine z_if_eq (tgt := 234) F dX8_sisters_208 (by decide) (fun h_208 => ?_) (fun h_208 => absurd h_208 (by decide))
        refine z_iincc (c := 1) (lv' := [_, _, _, _, _, _, _, _, _, _, _, _, _]) F dX8_sisters_234 rfl (by decide) (by decide) rfl rfl ?_
        refine z_goto (tgt := 70) F dX8_sisters_237 (by decide) ?_
        rw [nI_1]
        exact ih (r + 1) _ _ _ _ _ _ _ _ (by omega) (Or.inr (hm.elim (fun z => absurd z.1 (by omega)) (fun z => ⟨by omega, z.2⟩)))
      have K1 : ∀ (jo u : Nat) (set k : Int32) (lv11 lv12 : Option Value), jo < nt → M.1 (o + 1) (4 * jo + 1) = nI u → u ≤ u0 → (r = 0 → jo = t0 ∧ set = 0) → ZW w g 13 206 [some (.ref (w.2.2 o)), some (.int (nI t0)), some (.int kk), some (.int (nI n)), some (.int most), some (.int best), some (.int (nI r)), some (.int (nI jo)), some (.int set), some (.int 1), some (.int k), lv11, lv12] [] (za M (o + 9) f) := by
        intro jo u set k lv11 lv12 hjo hu huu h0
        have wo : wrt (M.1 (o + 1)) (nI jo) = nI u := by rw [wrt_n _ (by omega), hu]
        rcases hm with ⟨r0, m1, b0⟩ | ⟨r0, m1, b0⟩
        · obtain ⟨rfl, rfl⟩ := h0 r0
          subst m1
          refine z_iload F dX8_sisters_206 rfl ?_
          refine z_if_eq (tgt := 234) F dX8_sisters_208 (by decide) (fun h_208 => absurd h_208 (by decide)) (fun h_208 => ?_)
          refine z_aload_n F dX8_sisters_211 rfl ?_
          refine z_iload F dX8_sisters_212 rfl ?_
          refine z_callVi F (c_X8_worth J hk ho (nt := nt) (Or.inr ⟨jo, hjo, rfl⟩) h10) zm_X8_worth zv_X8_worth ml_X8_173 (by with_reducible assumption) (by decide) rfl rfl rfl (Nat.le_of_ble_eq_true rfl) dX8_sisters_214 (by omega) (fun r_214 M_214 h_214 => ?_)
          obtain ⟨e_214, f_214⟩ := h_214
          rw [e1] at f_214
          subst f_214
          replace e_214 := Eq.symm e_214
          subst e_214
          refine z_iload F dX8_sisters_217 rfl ?_
          refine z_ic_le (tgt := 234) F dX8_sisters_219 (by decide) (fun h_219 => absurd h_219 (by rw [wt]; exact fun z => nI_pos (n := u0) (by omega) (Int32.lt_of_le_of_lt z (by decide)))) (fun h_219 => ?_)
          refine z_aload_n F dX8_sisters_222 rfl ?_
          refine z_iload F dX8_sisters_223 rfl ?_
          refine z_callVi F (c_X8_worth J hk ho (nt := nt) (Or.inr ⟨jo, hjo, rfl⟩) h10) zm_X8_worth zv_X8_worth ml_X8_173 (by with_reducible assumption) (by decide) rfl rfl rfl (Nat.le_of_ble_eq_true rfl) dX8_sisters_225 (by omega) (fun r_225 M_225 h_225 => ?_)
          obtain ⟨e_225, f_225⟩ := h_225
          rw [e1] at f_225
          subst f_225
          replace e_225 := Eq.symm e_225
          subst e_225
          refine z_istore (lv' := [_, _, _, _, _, _, _, _, _, _, _, _, _]) F dX8_sisters_228 (by decide) rfl rfl ?_
          refine z_iload F dX8_sisters_230 rfl ?_
          refine z_istore (lv' := [_, _, _, _, _, _, _, _, _, _, _, _, _]) F dX8_sisters_232 (by decide) rfl rfl ?_
          refine z_iincc (c := 1) (lv' := [_, _, _, _, _, _, _, _, _, _, _, _, _]) F dX8_sisters_234 rfl (by decide) (by decide) rfl rfl ?_
          refine z_goto (tgt := 70) F dX8_sisters_237 (by decide) ?_
          rw [nI_1]
          exact ih (r + 1) _ _ _ _ _ _ _ _ (by omega) (Or.inr ⟨by omega, rfl, rfl⟩)
        · subst m1
          refine z_iload F dX8_sisters_206 rfl ?_
          refine z_if_eq (tgt := 234) F dX8_sisters_208 (by decide) (fun h_208 => absurd h_208 (by decide)) (fun h_208 => ?_)
          refine z_aload_n F dX8_sisters_211 rfl ?_
          refine z_iload F dX8_sisters_212 rfl ?_
          refine z_callVi F (c_X8_worth J hk ho (nt := nt) (Or.inr ⟨jo, hjo, rfl⟩) h10) zm_X8_worth zv_X8_worth ml_X8_173 (by with_reducible assumption) (by decide) rfl rfl rfl (Nat.le_of_ble_eq_true rfl) dX8_sisters_214 (by omega) (fun r_214 M_214 h_214 => ?_)
          obtain ⟨e_214, f_214⟩ := h_214
          rw [e1] at f_214
          subst f_214
          replace e_214 := Eq.symm e_214
          subst e_214
          refine z_iload F dX8_sisters_217 rfl ?_
          refine z_ic_le (tgt := 234) F dX8_sisters_219 (by decide) (fun h_219 => ?_) (fun h_219 => absurd h_219 (by rw [wt, wo]; exact nI_nlt huu (by omega)))
          refine z_iincc (c := 1) (lv' := [_, _, _, _, _, _, _, _, _, _, _, _, _]) F dX8_sisters_234 rfl (by decide) (by decide) rfl rfl ?_
          refine z_goto (tgt := 70) F dX8_sisters_237 (by decide) ?_
          rw [nI_1]
          exact ih (r + 1) _ _ _ _ _ _ _ _ (by omega) (Or.inr ⟨by omega, rfl, b0⟩)
      have ex0 : ∀ (own set k : Int32) (lv11 lv12 : Option Value), 0 < r → ZW w g 13 90 [some (.ref (w.2.2 o)), some (.int (nI t0)), some (.int kk), some (.int (nI n)), some (.int most), some (.int best), some (.int (nI r)), some (.int own), some (.int set), some (.int 0), some (.int k), lv11, lv12] [] (za M (o + 9) f) := by
        intro own set k lv11 lv12 hr0
        refine z_iload F dX8_sisters_90 rfl ?_
        refine z_iload_n F dX8_sisters_92 rfl ?_
        refine z_ic_ge (tgt := 206) F dX8_sisters_93 (by decide) (fun h_93 => ?_) (fun h_93 => ?_)
        · exact K0 own set k _ _ hr0
        · refine z_iload F dX8_sisters_96 rfl ?_
          refine z_if_eq (tgt := 206) F dX8_sisters_98 (by decide) (fun h_98 => ?_) (fun h_98 => absurd h_98 (by decide))
          exact K0 own set k _ _ hr0
      have inn : ∀ (i k jo u : Nat) (set : Int32) (lv11 lv12 : Option Value), k + i = n → jo < nt → M.1 (o + 1) (4 * jo + 1) = nI u → u ≤ u0 → (r = 0 → jo = t0 ∧ set = 0) → ZW w g 13 90 [some (.ref (w.2.2 o)), some (.int (nI t0)), some (.int kk), some (.int (nI n)), some (.int most), some (.int best), some (.int (nI r)), some (.int (nI jo)), some (.int set), some (.int 1), some (.int (nI k)), lv11, lv12] [] (za M (o + 9) f) := by
        intro i
        induction i with
        | zero =>
          intro k jo u set lv11 lv12 hki hjo hu huu h0
          obtain rfl : k = n := by omega
          refine z_iload F dX8_sisters_90 rfl ?_
          refine z_iload_n F dX8_sisters_92 rfl ?_
          refine z_ic_ge (tgt := 206) F dX8_sisters_93 (by decide) (fun h_93 => ?_) (fun h_93 => absurd h_93 (nlt (Int32.le_refl _)))
          exact K1 jo u set _ _ _ hjo hu huu h0
        | succ i ihi =>
          intro k jo u set lv11 lv12 hki hjo hu huu h0
          obtain ⟨p, hp, efk⟩ := hf k (by omega)
          obtain ⟨mg, hmg, emg⟩ := hG p hp
          have vo := tv5 p (by omega)
          have wo : wrt (M.1 (o + 1)) (nI jo) = nI u := by rw [wrt_n _ (by omega), hu]
          refine z_iload F dX8_sisters_90 rfl ?_
          refine z_iload_n F dX8_sisters_92 rfl ?_
          refine z_ic_ge (tgt := 206) F dX8_sisters_93 (by decide) (fun h_93 => absurd h_93 (nle (nI_lt (by omega) (by omega)))) (fun h_93 => ?_)
          refine z_iload F dX8_sisters_96 rfl ?_
          refine z_if_eq (tgt := 206) F dX8_sisters_98 (by decide) (fun h_98 => absurd h_98 (by decide)) (fun h_98 => ?_)
          refine z_aload_n F dX8_sisters_101 rfl ?_
          refine zg_X8_meets F (by with_reducible assumption) fl_X8_34 dX8_sisters_102 (fun hk_102 => ?_)
          refine z_iload F dX8_sisters_105 rfl ?_
          refine z_iald10n (q := k) F (by with_reducible assumption) (by first | with_reducible rfl | (simp only [n4, n2, n3, n5, n14, n16, na1, na2, na3, nI_add, nI_1, nI_pred]; done) | (simp only [n4, n2, n3, n5, n14, n16, na1, na2, na3, nI_add, nI_1, nI_pred, Nat.add_assoc, Nat.add_comm, Nat.add_left_comm]; done)) (by rw [hz9]; omega) dX8_sisters_107 ?_
          try simp only [e9, e3, e2, efk, emg]
          refine z_istore (lv' := [_, _, _, _, _, _, _, _, _, _, _, _, _]) F dX8_sisters_108 (by decide) rfl rfl ?_
          refine z_iload F dX8_sisters_110 rfl ?_
          refine z_iload_n F dX8_sisters_112 rfl ?_
          refine z_iconst (v := 1) F dX8_sisters_113 (by decide) ?_
          refine z_isub F dX8_sisters_114 ?_
          refine z_iload F dX8_sisters_115 rfl ?_
          refine z_isub F dX8_sisters_117 ?_
          refine z_ishr F dX8_sisters_118 ?_
          refine z_iconst (v := 1) F dX8_sisters_119 (by decide) ?_
          refine z_iand F dX8_sisters_120 ?_
          refine z_iconst (v := 1) F dX8_sisters_121 (by decide) ?_
          refine z_ic_ne (tgt := 200) F dX8_sisters_122 (by decide) (fun h_122 => ?_) (fun h_122 => ?_)
          · try simp only [e9, e3, e2, efk, emg] at h_122
            refine z_iincc (c := 1) (lv' := [_, _, _, _, _, _, _, _, _, _, _, _, _]) F dX8_sisters_200 rfl (by decide) (by decide) rfl rfl ?_
            refine z_goto (tgt := 90) F dX8_sisters_203 (by decide) ?_
            rw [nI_1]
            exact ihi (k + 1) jo u set _ _ (by omega) hjo hu huu h0
          · try simp only [e9, e3, e2, efk, emg] at h_122
            have hr0 : 0 < r := Nat.pos_of_ne_zero (fun z => by subst z; exact sh0 _ h_122)
            refine z_aload_n F dX8_sisters_125 rfl ?_
            refine zg_X8_now F (by with_reducible assumption) fl_X8_16 dX8_sisters_126 (fun hk_126 => ?_)
            refine z_iconst (v := 5) F dX8_sisters_129 (by decide) ?_
            refine z_iload F dX8_sisters_130 rfl ?_
            refine z_iadd F dX8_sisters_132 ?_
            refine z_iald10n (q := (5 + p)) F (by with_reducible assumption) (by first | with_reducible rfl | (simp only [n4, n2, n3, n5, n14, n16, na1, na2, na3, nI_add, nI_1, nI_pred]; done) | (simp only [n4, n2, n3, n5, n14, n16, na1, na2, na3, nI_add, nI_1, nI_pred, Nat.add_assoc, Nat.add_comm, Nat.add_left_comm]; done)) (by rw [hz3]; omega) dX8_sisters_133 ?_
            try simp only [e9, e3, e2, efk, emg]
            refine z_istore (lv' := [_, _, _, _, _, _, _, _, _, _, _, _, _]) F dX8_sisters_134 (by decide) rfl rfl ?_
            refine z_iload F dX8_sisters_136 rfl ?_
            refine z_bipush (v := (-4)) F dX8_sisters_138 (by decide) ?_
            refine z_ic_eq (tgt := 174) F dX8_sisters_140 (by decide) (fun h_140 => ?_) (fun h_140 => ?_)
            · try simp only [e9, e3, e2, efk, emg] at h_140
              refine z_iconst (v := 0) F dX8_sisters_174 (by decide) ?_
              refine z_istore (lv' := [_, _, _, _, _, _, _, _, _, _, _, _, _]) F dX8_sisters_175 (by decide) rfl rfl ?_
              refine z_iload F dX8_sisters_177 rfl ?_
              refine z_if_eq (tgt := 187) F dX8_sisters_179 (by decide) (fun h_179 => ?_) (fun h_179 => absurd h_179 (by decide))
              refine z_iload F dX8_sisters_187 rfl ?_
              refine z_istore (lv' := [_, _, _, _, _, _, _, _, _, _, _, _, _]) F dX8_sisters_189 (by decide) rfl rfl ?_
              refine z_iload F dX8_sisters_191 rfl ?_
              refine z_iconst (v := 1) F dX8_sisters_193 (by decide) ?_
              refine z_iload F dX8_sisters_194 rfl ?_
              refine z_ishl F dX8_sisters_196 ?_
              refine z_ior F dX8_sisters_197 ?_
              refine z_istore (lv' := [_, _, _, _, _, _, _, _, _, _, _, _, _]) F dX8_sisters_198 (by decide) rfl rfl ?_
              refine z_iincc (c := 1) (lv' := [_, _, _, _, _, _, _, _, _, _, _, _, _]) F dX8_sisters_200 rfl (by decide) (by decide) rfl rfl ?_
              refine z_goto (tgt := 90) F dX8_sisters_203 (by decide) ?_
              exact ex0 _ _ _ _ _ hr0
            · try simp only [e9, e3, e2, efk, emg] at h_140
              refine z_aload_n F dX8_sisters_143 rfl ?_
              refine z_iload F dX8_sisters_144 rfl ?_
              refine z_callVi F (c_X8_worth J hk ho (nt := nt) (Or.inr ⟨jo, hjo, rfl⟩) h10) zm_X8_worth zv_X8_worth ml_X8_173 (by with_reducible assumption) (by decide) rfl rfl rfl (Nat.le_of_ble_eq_true rfl) dX8_sisters_146 (by omega) (fun r_146 M_146 h_146 => ?_)
              obtain ⟨e_146, f_146⟩ := h_146
              rw [e1] at f_146
              subst f_146
              replace e_146 := Eq.symm e_146
              subst e_146
              refine z_aload_n F dX8_sisters_149 rfl ?_
              refine z_iload F dX8_sisters_150 rfl ?_
              refine z_callVi F (c_X8_worth J hk ho (nt := nt) vo h10) zm_X8_worth zv_X8_worth ml_X8_173 (by with_reducible assumption) (by decide) rfl rfl rfl (Nat.le_of_ble_eq_true rfl) dX8_sisters_152 (by omega) (fun r_152 M_152 h_152 => ?_)
              obtain ⟨e_152, f_152⟩ := h_152
              rw [e1] at f_152
              subst f_152
              replace e_152 := Eq.symm e_152
              subst e_152
              refine z_aload_n F dX8_sisters_155 rfl ?_
              refine zg_X8_person F (by with_reducible assumption) fl_X8_13 dX8_sisters_156 (fun hk_156 => ?_)
              refine z_iconst (v := 2) F dX8_sisters_159 (by decide) ?_
              refine z_iload F dX8_sisters_160 rfl ?_
              refine z_imul F dX8_sisters_162 ?_
              refine z_iconst (v := 1) F dX8_sisters_163 (by decide) ?_
              refine z_iadd F dX8_sisters_164 ?_
              refine z_iald10n (q := ((2 * p) + 1)) F (by with_reducible assumption) (by first | with_reducible rfl | (simp only [n4, n2, n3, n5, n14, n16, na1, na2, na3, nI_add, nI_1, nI_pred]; done) | (simp only [n4, n2, n3, n5, n14, n16, na1, na2, na3, nI_add, nI_1, nI_pred, Nat.add_assoc, Nat.add_comm, Nat.add_left_comm]; done)) (by rw [hz2]; omega) dX8_sisters_165 ?_
              try simp only [e9, e3, e2, efk, emg]
              refine z_iadd F dX8_sisters_166 ?_
              refine z_ic_lt (tgt := 174) F dX8_sisters_167 (by decide) (fun h_167 => ?_) (fun h_167 => ?_)
              · try simp only [e9, e3, e2, efk, emg] at h_167
                refine z_iconst (v := 0) F dX8_sisters_174 (by decide) ?_
                refine z_istore (lv' := [_, _, _, _, _, _, _, _, _, _, _, _, _]) F dX8_sisters_175 (by decide) rfl rfl ?_
                refine z_iload F dX8_sisters_177 rfl ?_
                refine z_if_eq (tgt := 187) F dX8_sisters_179 (by decide) (fun h_179 => ?_) (fun h_179 => absurd h_179 (by decide))
                refine z_iload F dX8_sisters_187 rfl ?_
                refine z_istore (lv' := [_, _, _, _, _, _, _, _, _, _, _, _, _]) F dX8_sisters_189 (by decide) rfl rfl ?_
                refine z_iload F dX8_sisters_191 rfl ?_
                refine z_iconst (v := 1) F dX8_sisters_193 (by decide) ?_
                refine z_iload F dX8_sisters_194 rfl ?_
                refine z_ishl F dX8_sisters_196 ?_
                refine z_ior F dX8_sisters_197 ?_
                refine z_istore (lv' := [_, _, _, _, _, _, _, _, _, _, _, _, _]) F dX8_sisters_198 (by decide) rfl rfl ?_
                refine z_iincc (c := 1) (lv' := [_, _, _, _, _, _, _, _, _, _, _, _, _]) F dX8_sisters_200 rfl (by decide) (by decide) rfl rfl ?_
                refine z_goto (tgt := 90) F dX8_sisters_203 (by decide) ?_
                exact ex0 _ _ _ _ _ hr0
              · try simp only [e9, e3, e2, efk, emg] at h_167
                refine z_iconst (v := 1) F dX8_sisters_170 (by decide) ?_
                refine z_goto (tgt := 175) F dX8_sisters_171 (by decide) ?_
                refine z_istore (lv' := [_, _, _, _, _, _, _, _, _, _, _, _, _]) F dX8_sisters_175 (by decide) rfl rfl ?_
                refine z_iload F dX8_sisters_177 rfl ?_
                refine z_if_eq (tgt := 187) F dX8_sisters_179 (by decide) (fun h_179 => absurd h_179 (by decide)) (fun h_179 => ?_)
                refine z_iload F dX8_sisters_182 rfl ?_
                refine z_goto (tgt := 189) F dX8_sisters_184 (by decide) ?_
                refine z_istore (lv' := [_, _, _, _, _, _, _, _, _, _, _, _, _]) F dX8_sisters_189 (by decide) rfl rfl ?_
                refine z_iload F dX8_sisters_191 rfl ?_
                refine z_iconst (v := 1) F dX8_sisters_193 (by decide) ?_
                refine z_iload F dX8_sisters_194 rfl ?_
                refine z_ishl F dX8_sisters_196 ?_
                refine z_ior F dX8_sisters_197 ?_
                refine z_istore (lv' := [_, _, _, _, _, _, _, _, _, _, _, _, _]) F dX8_sisters_198 (by decide) rfl rfl ?_
                refine z_iincc (c := 1) (lv' := [_, _, _, _, _, _, _, _, _, _, _, _, _]) F dX8_sisters_200 rfl (by decide) (by decide) rfl rfl ?_
                refine z_goto (tgt := 90) F dX8_sisters_203 (by decide) ?_
                rw [nI_1]
                rcases vo with z | ⟨j2, hj2, z⟩
                · exact absurd z h_140
                obtain ⟨u2, hu2, ew2⟩ := hW j2 hj2
                have w2 : wrt (M.1 (o + 1)) (nI j2) = nI u2 := by rw [wrt_n _ (by omega), ew2]
                rw [z, wo, w2, nI_add] at h_167
                have h7 := (nI_leI (by omega) (by omega)).mp h_167
                rw [z]
                exact ihi (k + 1) j2 u2 _ _ _ (by omega) hj2 ew2 (by omega) (fun z => absurd z (by omega))
      refine z_iload F dX8_sisters_70 rfl ?_
      refine z_iconst (v := 1) F dX8_sisters_72 (by decide) ?_
      refine z_iload_n F dX8_sisters_73 rfl ?_
      refine z_ishl F dX8_sisters_74 ?_
      rw [sh]
      refine z_ic_ge (tgt := 240) F dX8_sisters_75 (by decide) (fun h_75 => absurd h_75 (nle (nI_lt (by omega) (by omega)))) (fun h_75 => ?_)
      refine z_iload_n F dX8_sisters_78 rfl ?_
      refine z_istore (lv' := [_, _, _, _, _, _, _, _, _, _, _, _, _]) F dX8_sisters_79 (by decide) rfl rfl ?_
      refine z_iconst (v := 0) F dX8_sisters_81 (by decide) ?_
      refine z_istore (lv' := [_, _, _, _, _, _, _, _, _, _, _, _, _]) F dX8_sisters_82 (by decide) rfl rfl ?_
      refine z_iconst (v := 1) F dX8_sisters_84 (by decide) ?_
      refine z_istore (lv' := [_, _, _, _, _, _, _, _, _, _, _, _, _]) F dX8_sisters_85 (by decide) rfl rfl ?_
      refine z_iconst (v := 0) F dX8_sisters_87 (by decide) ?_
      refine z_istore (lv' := [_, _, _, _, _, _, _, _, _, _, _, _, _]) F dX8_sisters_88 (by decide) rfl rfl ?_
      exact inn n 0 t0 u0 0 _ _ (by omega) ht ew0 (Nat.le_refl _) (fun _ => ⟨rfl, rfl⟩)
  have meets : ∀ (i : Nat), i ≤ 12 → ∀ (n : Nat) (f : zF1) (lv5 : Option Value), n + cS (M.1 (o + 2)) np i ≤ np → mtsOK np f n → ZW w g 13 6 [some (.ref (w.2.2 o)), some (.int (nI t0)), some (.int kk), some (.int (nI n)), some (.int (nI i - 1)), lv5, none, none, none, none, none, none, none] [] (za M (o + 9) f) := by
    intro i
    induction i with
    | zero =>
      intro hi n f lv5 hn hf
      refine z_iload F dX8_sisters_6 rfl ?_
      refine z_if_lt (tgt := 61) F dX8_sisters_8 (by decide) (fun h_8 => ?_) (fun h_8 => absurd h_8 (by decide))
      refine z_iconst (v := (-1)) F dX8_sisters_61 (by decide) ?_
      refine z_istore (lv' := [_, _, _, _, _, _, _, _, _, _, _, _, _]) F dX8_sisters_62 (by decide) rfl rfl ?_
      refine z_iconst (v := 0) F dX8_sisters_64 (by decide) ?_
      refine z_istore (lv' := [_, _, _, _, _, _, _, _, _, _, _, _, _]) F dX8_sisters_65 (by decide) rfl rfl ?_
      refine z_iconst (v := 0) F dX8_sisters_67 (by decide) ?_
      refine z_istore (lv' := [_, _, _, _, _, _, _, _, _, _, _, _, _]) F dX8_sisters_68 (by decide) rfl rfl ?_
      exact rows n f (by omega) hf (2 ^ n) 0 (-1) 0 _ _ _ _ _ _ (by omega) (Or.inl ⟨rfl, rfl, rfl⟩)
    | succ i ih =>
      intro hi n f lv5 hn hf
      rw [nI_pred]
      have inner : ∀ (j n : Nat) (f : zF1), j ≤ np → n + cA (M.1 (o + 2)) i j + cS (M.1 (o + 2)) np i ≤ np → mtsOK np f n → ZW w g 13 19 [some (.ref (w.2.2 o)), some (.int (nI t0)), some (.int kk), some (.int (nI n)), some (.int (nI i)), some (.int (nI j - 1)), none, none, none, none, none, none, none] [] (za M (o + 9) f) := by
        intro j
        induction j with
        | zero =>
          intro n f hj hn hf
          refine z_iload F dX8_sisters_19 rfl ?_
          refine z_if_lt (tgt := 55) F dX8_sisters_21 (by decide) (fun h_21 => ?_) (fun h_21 => absurd h_21 (by decide))
          refine z_iincc (c := (-1)) (lv' := [_, _, _, _, _, _, _, _, _, _, _, _, _]) F dX8_sisters_55 rfl (by decide) (by decide) rfl rfl ?_
          refine z_goto (tgt := 6) F dX8_sisters_58 (by decide) ?_
          rw [add_m1]
          exact ih (by omega) n f _ (by rw [cA] at hn; omega) hf
        | succ j ihj =>
          intro n f hj hn hf
          rw [cA] at hn
          rw [nI_pred]
          refine z_iload F dX8_sisters_19 rfl ?_
          refine z_if_lt (tgt := 55) F dX8_sisters_21 (by decide) (fun h_21 => absurd h_21 (nI_pos (by omega))) (fun h_21 => ?_)
          refine z_aload_n F dX8_sisters_24 rfl ?_
          refine zg_X8_person F (by with_reducible assumption) fl_X8_13 dX8_sisters_25 (fun hk_25 => ?_)
          refine z_iconst (v := 2) F dX8_sisters_28 (by decide) ?_
          refine z_iload F dX8_sisters_29 rfl ?_
          refine z_imul F dX8_sisters_31 ?_
          refine z_iald10n (q := (2 * j)) F (by with_reducible assumption) (by first | with_reducible rfl | (simp only [n4, n2, n3, n5, n14, n16, na1, na2, na3, nI_add, nI_1, nI_pred]; done) | (simp only [n4, n2, n3, n5, n14, n16, na1, na2, na3, nI_add, nI_1, nI_pred, Nat.add_assoc, Nat.add_comm, Nat.add_left_comm]; done)) (by rw [hz2]; omega) dX8_sisters_32 ?_
          try simp only [e2]
          refine z_iload F dX8_sisters_33 rfl ?_
          refine z_ic_ne (tgt := 49) F dX8_sisters_35 (by decide) (fun h_35 => ?_) (fun h_35 => ?_)
          · try simp only [e2] at h_35
            refine z_iincc (c := (-1)) (lv' := [_, _, _, _, _, _, _, _, _, _, _, _, _]) F dX8_sisters_49 rfl (by decide) (by decide) rfl rfl ?_
            refine z_goto (tgt := 19) F dX8_sisters_52 (by decide) ?_
            rw [add_m1]
            exact ihj n f (by omega) (by rw [if_neg h_35] at hn; omega) hf
          · try simp only [e2] at h_35
            refine z_aload_n F dX8_sisters_38 rfl ?_
            refine zg_X8_meets F (by with_reducible assumption) fl_X8_34 dX8_sisters_39 (fun hk_39 => ?_)
            refine z_iload_n F dX8_sisters_42 rfl ?_
            refine z_iload F dX8_sisters_43 rfl ?_
            refine z_iast10n (q := n) F (by with_reducible assumption) (by first | with_reducible rfl | (simp only [n4, n2, n3, n5, n14, n16, na1, na2, na3, nI_add, nI_1, nI_pred]; done) | (simp only [n4, n2, n3, n5, n14, n16, na1, na2, na3, nI_add, nI_1, nI_pred, Nat.add_assoc, Nat.add_comm, Nat.add_left_comm]; done)) (by rw [hz9]; rw [if_pos h_35] at hn; omega) dX8_sisters_45 ?_
            refine z_iincc (c := 1) (lv' := [_, _, _, _, _, _, _, _, _, _, _, _, _]) F dX8_sisters_46 rfl (by decide) (by decide) rfl rfl ?_
            refine z_iincc (c := (-1)) (lv' := [_, _, _, _, _, _, _, _, _, _, _, _, _]) F dX8_sisters_49 rfl (by decide) (by decide) rfl rfl ?_
            refine z_goto (tgt := 19) F dX8_sisters_52 (by decide) ?_
            rw [add_m1, nI_1, zs_zaa]
            refine ihj (n + 1) _ (by omega) (by rw [if_pos h_35] at hn; omega) (fun q hq => ?_)
            by_cases z : q = n
            · subst z; exact ⟨j, by omega, va_up_self _ _ _⟩
            · obtain ⟨p, p1, p2⟩ := hf q (by omega)
              exact ⟨p, p1, (va_up_ne _ _ z).trans p2⟩
      refine z_iload F dX8_sisters_6 rfl ?_
      refine z_if_lt (tgt := 61) F dX8_sisters_8 (by decide) (fun h_8 => absurd h_8 (nI_pos (by omega))) (fun h_8 => ?_)
      refine z_aload_n F dX8_sisters_11 rfl ?_
      refine zg_X8_people F (by with_reducible assumption) fl_X8_76 dX8_sisters_12 ?_
      try simp only [e0]
      refine z_iconst (v := 1) F dX8_sisters_15 (by decide) ?_
      refine z_isub F dX8_sisters_16 ?_
      refine z_istore (lv' := [_, _, _, _, _, _, _, _, _, _, _, _, _]) F dX8_sisters_17 (by decide) rfl rfl ?_
      exact inner np n f (Nat.le_refl _) (by rw [cS] at hn; omega) hf
  refine z_iconst (v := 0) F dX8_sisters_0 (by decide) ?_
  refine z_istore_n (lv' := [_, _, _, _, _, _, _, _, _, _, _, _, _]) F dX8_sisters_1 (by decide) rfl rfl ?_
  refine z_bipush (v := 11) F dX8_sisters_2 (by decide) ?_
  refine z_istore (lv' := [_, _, _, _, _, _, _, _, _, _, _, _, _]) F dX8_sisters_4 (by decide) rfl rfl ?_
  have k0 := meets 12 (Nat.le_refl _) 0 (M.1 (o + 9)) none (by have := cS_le (M.1 (o + 2)) (Nat.le_refl 12) np; omega) (fun k hk2 => absurd hk2 (by omega))
  rw [za_self] at k0
  exact k0
theorem zgx.m {o : Nat} {M M' : zM} {f : zF1} (h : zgx o M M') : zgx o M (za M' (o + 9) f) := h.a (Or.inr (Or.inr (Or.inl rfl)))
theorem c_X8_sister {l : Launch} {w : zE} (J : zJ w) {M : zM} {o nt np a : Nat} {x k : Int32} (hk : zk o = 8) (ho : o = 138) (ok : rOK M o nt np a) (hW : wOK nt (M.1 (o + 1))) (hG : mOK np (M.1 (o + 2))) : zCi l w yX8_sister cX8_sister 4 (some .int) 7 [.ref (w.2.2 o), .int x, .int k] M (fun r M2 => zgf o M M2 ∧ r = if (0 ≤ x ∧ x < M.1 o 0) ∧ ¬ (k < 0 ∨ 1 < k) then (if whoR (hmR M o np a).1 x np = -4 then (if k = 0 then wrt (M.1 (o + 1)) x else 0) else -2) else -1) := by
  obtain ⟨hz1, hz2, hz3, hz4, hz5, hz6, hz7, hz8, hz9, hz10, hz11, hz12, hz13, hz14, hz15⟩ := zn8 ho
  obtain ⟨hnt, h10, hnp, h8, kd, tv, ha, h12, hts⟩ := id ok
  have xz : zgx o M (zr (asd M o) o (hmR M o np a).1 (hmR M o np a).2) := (asd_x M o).r
  have g1 := xz.2.2 1 (by decide) (by decide) (by decide)
  have b1 := xz.2.1 (o + 1) (by omega) (by omega) (by omega) (by omega) (by omega)
  have b2 := xz.2.1 (o + 2) (by omega) (by omega) (by omega) (by omega) (by omega)
  have b3 : (zr (asd M o) o (hmR M o np a).1 (hmR M o np a).2).1 (o + 3) = (hmR M o np a).1 := zr_T _ _ _ _
  have b8 : (zr (asd M o) o (hmR M o np a).1 (hmR M o np a).2).1 (o + 8) = M.1 (o + 3) := (zr8 _ _ _ _).trans (asd_8 M o)
  refine zCi_of J zm_X8_sister [some (.ref (w.2.2 o)), some (.int x), some (.int k), none] (Nat.le_of_ble_eq_true rfl) rfl (fun g hg F X => ?_)
  subst hg
  refine z_aload_n F dX8_sister_0 rfl ?_
  refine z_iload_n F dX8_sister_1 rfl ?_
  refine z_i2l F dX8_sister_2 ?_
  refine z_callVi F (d_X8_isThing J hk hnt h10) zm_X8_isThing zv_X8_isThing ml_X8_89 (by with_reducible assumption) (by decide) rfl rfl rfl (Nat.le_of_ble_eq_true rfl) dX8_sister_3 (by omega) (fun r_3 M_3 h_3 => ?_)
  obtain ⟨e_3, rfl⟩ := h_3
  replace e_3 := Eq.symm e_3
  subst e_3
  refine z_if_eq (tgt := 19) F dX8_sister_6 (by decide) (fun h_6 => ?_) (fun h_6 => ?_)
  · replace h_6 := bI_0.mp h_6
    refine z_iconst (v := (-1)) F dX8_sister_19 (by decide) ?_
    refine z_iret F X dX8_sister_20 ?_
    exact ⟨zgf.rf hts, (if_neg (fun z => h_6 z.1)).symm⟩
  · replace h_6 := bI_1.mp h_6
    refine z_iload_n F dX8_sister_9 rfl ?_
    refine z_i2l F dX8_sister_10 ?_
    refine z_lconst (v := 0) F dX8_sister_11 (by decide) ?_
    refine z_lconst (v := 1) F dX8_sister_12 (by decide) ?_
    refine z_callSi F (d_X8_in J (a := 0) (b := 1) (by decide) (by decide)) zm_X8_in zst_X8_in ml_X8_72 rfl rfl (Nat.le_of_ble_eq_true rfl) dX8_sister_13 (by omega) (fun r_13 M_13 h_13 => ?_)
    obtain ⟨e_13, rfl⟩ := h_13
    replace e_13 := Eq.symm e_13
    subst e_13
    refine z_if_ne (tgt := 21) F dX8_sister_16 (by decide) (fun h_16 => ?_) (fun h_16 => ?_)
    · replace h_16 := bI_1.mp h_16
      refine z_aload_n F dX8_sister_21 rfl ?_
      refine z_callVv F (c_X8_asides J hk ho) zm_X8_asides zv_X8_asides ml_X8_195 (by with_reducible assumption) (by decide) rfl rfl rfl (Nat.le_of_ble_eq_true rfl) dX8_sister_22 (by omega) (fun M_22 h_22 => ?_)
      replace h_22 := Eq.symm h_22
      subst h_22
      refine z_aload_n F dX8_sister_25 rfl ?_
      refine z_bipush (v := (-4)) F dX8_sister_26 (by decide) ?_
      refine zp_X8_more F (by with_reducible assumption) fl_X8_186 dX8_sister_28 ?_
      have hv : (0 ≤ x ∧ x < M.1 o 0) ∧ ¬ (k < 0 ∨ 1 < k) := ⟨h_6, by grind⟩
      obtain ⟨t0, ht0, rfl⟩ := n_in (n := nt) (by rw [← hnt]; exact h_6) (by omega)
      rw [show zs (za M (o + 8) (M.1 (o + 3))) o 7 (-4) = asd M o from rfl]
      refine z_aload_n F dX8_sister_31 rfl ?_
      refine z_callVv F (d_goesHome J hk ho ok) zm_X8_goesHome zv_X8_goesHome ml_X8_198 (by with_reducible assumption) (by decide) rfl rfl rfl (Nat.le_of_ble_eq_true rfl) dX8_sister_32 (by omega) (fun M_32 h_32 => ?_)
      replace h_32 := Eq.symm h_32
      subst h_32
      refine z_aload_n F dX8_sister_35 rfl ?_
      refine z_iload_n F dX8_sister_36 rfl ?_
      refine z_callVi F (c_X8_who J hk ho (np := np) (by rw [g1]; exact hnp) h8) zm_X8_who zv_X8_who ml_X8_95 (by with_reducible assumption) (by decide) rfl rfl rfl (Nat.le_of_ble_eq_true rfl) dX8_sister_37 (by omega) (fun r_37 M_37 h_37 => ?_)
      obtain ⟨e_37, rfl⟩ := h_37
      replace e_37 := Eq.symm e_37
      subst e_37
      rw [b3]
      refine z_bipush (v := (-4)) F dX8_sister_40 (by decide) ?_
      refine z_ic_ne (tgt := 54) F dX8_sister_42 (by decide) (fun h_42 => ?_) (fun h_42 => ?_)
      · refine z_bipush (v := (-2)) F dX8_sister_54 (by decide) ?_
        refine z_istore_n (lv' := [_, _, _, _]) F dX8_sister_56 (by decide) rfl rfl ?_
        refine z_aload_n F dX8_sister_57 rfl ?_
        refine z_callVv F (c_X8_backs J hk ho) zm_X8_backs zv_X8_backs ml_X8_201 (by with_reducible assumption) (by decide) rfl rfl rfl (Nat.le_of_ble_eq_true rfl) dX8_sister_58 (by omega) (fun M_58 h_58 => ?_)
        replace h_58 := Eq.symm h_58
        subst h_58
        refine z_iload_n F dX8_sister_61 rfl ?_
        refine z_iret F X dX8_sister_62 ?_
        refine ⟨?_, ?_⟩
        · exact zgf.back xz b8
        · rw [if_pos hv, if_neg h_42]
      · refine z_aload_n F dX8_sister_45 rfl ?_
        refine z_iload_n F dX8_sister_46 rfl ?_
        refine z_iload_n F dX8_sister_47 rfl ?_
        refine z_callVi F (c_X8_sisters J hk ho (nt := nt) (np := np) h10 (by rw [g1]; exact hnp) h8 (by rw [b3]; exact hmR_tv ok) (by rw [b1]; exact hW) (by rw [b2]; exact hG) ht0) zm_X8_sisters zv_X8_sisters ml_X8_204 (by with_reducible assumption) (by decide) rfl rfl rfl (Nat.le_of_ble_eq_true rfl) dX8_sister_48 (by omega) (fun r_48 M_48 h_48 => ?_)
        obtain ⟨⟨f, e_48⟩, f_48⟩ := h_48
        rw [b1] at f_48
        subst f_48
        subst e_48
        refine z_goto (tgt := 56) F dX8_sister_51 (by decide) ?_
        refine z_istore_n (lv' := [_, _, _, _]) F dX8_sister_56 (by decide) rfl rfl ?_
        refine z_aload_n F dX8_sister_57 rfl ?_
        refine z_callVv F (c_X8_backs J hk ho) zm_X8_backs zv_X8_backs ml_X8_201 (by with_reducible assumption) (by decide) rfl rfl rfl (Nat.le_of_ble_eq_true rfl) dX8_sister_58 (by omega) (fun M_58 h_58 => ?_)
        replace h_58 := Eq.symm h_58
        subst h_58
        refine z_iload_n F dX8_sister_61 rfl ?_
        refine z_iret F X dX8_sister_62 ?_
        refine ⟨?_, ?_⟩
        · exact zgf.back (M' := za (zr (asd M o) o (hmR M o np a).1 (hmR M o np a).2) (o + 9) f) xz.m (by rw [za_off _ (by omega)]; exact b8)
        · rw [if_pos hv, if_pos h_42]
    · replace h_16 := bI_0.mp h_16
      refine z_iconst (v := (-1)) F dX8_sister_19 (by decide) ?_
      refine z_iret F X dX8_sister_20 ?_
      exact ⟨zgf.rf hts, (if_neg (fun z => h_16 (by grind))).symm⟩
end
section
/-! cares by chance, the reference's -/
def chN (Q : Nat → Int32) (x : Int32) : Nat → Nat
  | 0 => 0
  | r + 1 => chN Q x r + if Q r = x then 1 else 0
def chQ (rb th pe : zF1) (np a : Nat) (T : zF1) (r : Nat) : Int32 := (homeM rb th pe np (-4) (nI r <<< (nI a &&& 31)) (12 - a) (T, -4)).1 0
theorem c_X8_chance {l : Launch} {w : zE} (J : zJ w) {M : zM} {o nt np a : Nat} {x k : Int32} (hk : zk o = 8) (ho : o = 138) (ok : rOK M o nt np a) : zCi l w yX8_chance cX8_chance 6 (some .int) 7 [.ref (w.2.2 o), .int x, .int k] M (fun r M2 => zgf o M M2 ∧ r = if (¬ x = -4 ∧ ¬ (0 ≤ x ∧ x < M.1 o 0)) ∨ (k < 0 ∨ 1 < k) then -1 else if a < 2 then -3 else if k = 0 then (redL (12 - a) (nI (chN (chQ (rbM (M.1 o)) (M.1 (o + 1)) (M.1 (o + 2)) np a (M.1 (o + 3))) x (2 ^ (12 - a))))).1 else (redL (12 - a) (nI (chN (chQ (rbM (M.1 o)) (M.1 (o + 1)) (M.1 (o + 2)) np a (M.1 (o + 3))) x (2 ^ (12 - a))))).2) := by
  obtain ⟨hz1, hz2, hz3, hz4, hz5, hz6, hz7, hz8, hz9, hz10, hz11, hz12, hz13, hz14, hz15⟩ := zn8 ho
  obtain ⟨hnt, h10, hnp, h8, kd, tv, ha, h12, hts⟩ := id ok
  have hsub : 12 - nI a = nI (12 - a) := pk_sub (a := 12) (b := a) h12
  refine zCi_of J zm_X8_chance [some (.ref (w.2.2 o)), some (.int x), some (.int k), none, none, none] (Nat.le_of_ble_eq_true rfl) rfl (fun g hg F X => ?_)
  subst hg
  generalize hQ : chQ (rbM (M.1 o)) (M.1 (o + 1)) (M.1 (o + 2)) np a (M.1 (o + 3)) = Q at X
  generalize hW : nI (chN Q x (2 ^ (12 - a))) = W at X
  have key2 : ¬ ((¬ x = -4 ∧ ¬ (0 ≤ x ∧ x < M.1 o 0)) ∨ (k < 0 ∨ 1 < k)) → ¬ a < 2 → ∀ (M' : zM) (j : Nat) (u : Int32), j < 11 → zgf o M M' → redL j u = redL (12 - a) W → ZW w g 6 122 [some (.ref (w.2.2 o)), some (.int x), some (.int k), some (.int (nI (12 - a))), some (.int u), some (.int (nI (2 ^ j)))] [] M' := by
    intro hb ha2 M' j
    induction j with
    | zero =>
      intro u hj hf hs
      refine z_iload F dX8_chance_122 rfl ?_
      refine z_iconst (v := 2) F dX8_chance_124 (by decide) ?_
      refine z_irem F dX8_chance_125 (by decide) ?_
      refine z_if_ne (tgt := 150) F dX8_chance_126 (by decide) (fun h_126 => ?_) (fun h_126 => ?_)
      · refine z_iload_n F dX8_chance_150 rfl ?_
        refine z_if_ne (tgt := 159) F dX8_chance_151 (by decide) (fun h_151 => ?_) (fun h_151 => ?_)
        · refine z_iload F dX8_chance_159 rfl ?_
          refine z_iret F X dX8_chance_161 ?_
          exact ⟨hf, by rw [if_neg hb, if_neg ha2, if_neg h_151, ← hs]; rfl⟩
        · refine z_iload F dX8_chance_154 rfl ?_
          refine z_goto (tgt := 161) F dX8_chance_156 (by decide) ?_
          refine z_iret F X dX8_chance_161 ?_
          exact ⟨hf, by rw [if_neg hb, if_neg ha2, if_pos h_151, ← hs]; rfl⟩
      · refine z_iload F dX8_chance_129 rfl ?_
        refine z_iconst (v := 1) F dX8_chance_131 (by decide) ?_
        refine z_ic_le (tgt := 150) F dX8_chance_132 (by decide) (fun h_132 => ?_) (fun h_132 => absurd h_132 (by decide))
        refine z_iload_n F dX8_chance_150 rfl ?_
        refine z_if_ne (tgt := 159) F dX8_chance_151 (by decide) (fun h_151 => ?_) (fun h_151 => ?_)
        · refine z_iload F dX8_chance_159 rfl ?_
          refine z_iret F X dX8_chance_161 ?_
          exact ⟨hf, by rw [if_neg hb, if_neg ha2, if_neg h_151, ← hs]; rfl⟩
        · refine z_iload F dX8_chance_154 rfl ?_
          refine z_goto (tgt := 161) F dX8_chance_156 (by decide) ?_
          refine z_iret F X dX8_chance_161 ?_
          exact ⟨hf, by rw [if_neg hb, if_neg ha2, if_pos h_151, ← hs]; rfl⟩
    | succ j ih =>
      intro u hj hf hs
      rw [redL] at hs
      refine z_iload F dX8_chance_122 rfl ?_
      refine z_iconst (v := 2) F dX8_chance_124 (by decide) ?_
      refine z_irem F dX8_chance_125 (by decide) ?_
      refine z_if_ne (tgt := 150) F dX8_chance_126 (by decide) (fun h_126 => ?_) (fun h_126 => ?_)
      · refine z_iload_n F dX8_chance_150 rfl ?_
        refine z_if_ne (tgt := 159) F dX8_chance_151 (by decide) (fun h_151 => ?_) (fun h_151 => ?_)
        · refine z_iload F dX8_chance_159 rfl ?_
          refine z_iret F X dX8_chance_161 ?_
          rw [if_neg h_126] at hs
          exact ⟨hf, by rw [if_neg hb, if_neg ha2, if_neg h_151, ← hs]⟩
        · refine z_iload F dX8_chance_154 rfl ?_
          refine z_goto (tgt := 161) F dX8_chance_156 (by decide) ?_
          refine z_iret F X dX8_chance_161 ?_
          rw [if_neg h_126] at hs
          exact ⟨hf, by rw [if_neg hb, if_neg ha2, if_pos h_151, ← hs]⟩
      · refine z_iload F dX8_chance_129 rfl ?_
        refine z_iconst (v := 1) F dX8_chance_131 (by decide) ?_
        refine z_ic_le (tgt := 150) F dX8_chance_132 (by decide) (fun h_132 => absurd h_132 (pw_gt j (by omega))) (fun h_132 => ?_)
        refine z_iload F dX8_chance_135 rfl ?_
        refine z_iconst (v := 2) F dX8_chance_137 (by decide) ?_
        refine z_idiv F dX8_chance_138 (by decide) ?_
        refine z_istore (lv' := [_, _, _, _, _, _]) F dX8_chance_139 (by decide) rfl rfl ?_
        refine z_iload F dX8_chance_141 rfl ?_
        refine z_iconst (v := 2) F dX8_chance_143 (by decide) ?_
        refine z_idiv F dX8_chance_144 (by decide) ?_
        refine z_istore (lv' := [_, _, _, _, _, _]) F dX8_chance_145 (by decide) rfl rfl ?_
        refine z_goto (tgt := 122) F dX8_chance_147 (by decide) ?_
        rw [pw_dv j (by omega)]
        rw [if_pos h_126] at hs
        exact ih (u / 2) (by omega) hf hs
  have key : ¬ ((¬ x = -4 ∧ ¬ (0 ≤ x ∧ x < M.1 o 0)) ∨ (k < 0 ∨ 1 < k)) → ¬ a < 2 → ∀ (j r : Nat) (M' : zM), r + j = 2 ^ (12 - a) → zgf o M M' → M'.1 (o + 8) = M.1 (o + 3) → ZW w g 6 56 [some (.ref (w.2.2 o)), some (.int x), some (.int k), some (.int (nI (12 - a))), some (.int (nI (chN Q x r))), some (.int (nI r))] [] M' := by
    intro hb ha2 j
    have sh := pw_sh (12 - a) (by omega)
    have p2 : 2 ^ (12 - a) ≤ 2 ^ 10 := Nat.pow_le_pow_right (by decide) (by omega)
    induction j with
    | zero =>
      intro r M' hr hf h8a
      obtain rfl : r = 2 ^ (12 - a) := by omega
      refine z_iload F dX8_chance_56 rfl ?_
      refine z_iconst (v := 1) F dX8_chance_58 (by decide) ?_
      refine z_iload_n F dX8_chance_59 rfl ?_
      refine z_ishl F dX8_chance_60 ?_
      rw [sh]
      refine z_ic_ge (tgt := 117) F dX8_chance_61 (by decide) (fun h_61 => ?_) (fun h_61 => absurd h_61 (nlt (Int32.le_refl _)))
      refine z_iconst (v := 1) F dX8_chance_117 (by decide) ?_
      refine z_iload_n F dX8_chance_118 rfl ?_
      refine z_ishl F dX8_chance_119 ?_
      refine z_istore (lv' := [_, _, _, _, _, _]) F dX8_chance_120 (by decide) rfl rfl ?_
      rw [sh, hW]
      exact key2 hb ha2 M' (12 - a) W (by omega) hf rfl
    | succ j ih =>
      intro r M' hr hf h8a
      have e8 : (zs M' o 7 (-4)).1 (o + 8) 3 = nI a := by rw [zs_off _ (by omega), h8a]; exact ha
      have g1 : zgx o M (zs (zs M' o 7 (-4)) o 8 (nI r <<< (nI a &&& 31))) := (hf.x.s (Or.inl rfl)).s (Or.inr (Or.inl rfl))
      have g3 : (zs (zs M' o 7 (-4)) o 8 (nI r <<< (nI a &&& 31))).1 (o + 3) = M.1 (o + 3) := by rw [zs_off _ (by omega), zs_off _ (by omega)]; exact hf.2.1 (o + 3) (by omega) (by omega) (by omega) (by omega)
      have g7 : (zs (zs M' o 7 (-4)) o 8 (nI r <<< (nI a &&& 31))).1 o 7 = -4 := by rw [zs_at, va_up_ne _ _ (by decide), zs_at, va_up_self]
      have g8 : (zs (zs M' o 7 (-4)) o 8 (nI r <<< (nI a &&& 31))).1 o 8 = nI r <<< (nI a &&& 31) := by rw [zs_at, va_up_self]
      have g9 : (zs (zs M' o 7 (-4)) o 8 (nI r <<< (nI a &&& 31))).1 (o + 8) = M.1 (o + 3) := by rw [zs_off _ (by omega), zs_off _ (by omega)]; exact h8a
      have hq : (homeM (rbM (M.1 o)) (M.1 (o + 1)) (M.1 (o + 2)) np (-4) (nI r <<< (nI a &&& 31)) (12 - a) (M.1 (o + 3), -4)).1 0 = Q r := by rw [← hQ, chQ]
      refine z_iload F dX8_chance_56 rfl ?_
      refine z_iconst (v := 1) F dX8_chance_58 (by decide) ?_
      refine z_iload_n F dX8_chance_59 rfl ?_
      refine z_ishl F dX8_chance_60 ?_
      rw [sh]
      refine z_ic_ge (tgt := 117) F dX8_chance_61 (by decide) (fun h_61 => absurd h_61 (nle (nI_lt (by omega) (by omega)))) (fun h_61 => ?_)
      refine z_aload_n F dX8_chance_64 rfl ?_
      refine z_bipush (v := (-4)) F dX8_chance_65 (by decide) ?_
      refine zp_X8_more F (by with_reducible assumption) fl_X8_186 dX8_chance_67 ?_
      refine z_aload_n F dX8_chance_70 rfl ?_
      refine z_iload F dX8_chance_71 rfl ?_
      refine z_aload_n F dX8_chance_73 rfl ?_
      refine zg_X8_aside F (by with_reducible assumption) fl_X8_31 dX8_chance_74 (fun hk_74 => ?_)
      refine z_iconst (v := 3) F dX8_chance_77 (by decide) ?_
      refine z_iald10n (q := 3) F (by with_reducible assumption) (by decide) (by rw [hz8]; omega) dX8_chance_78 ?_
      try simp only [e8]
      refine z_ishl F dX8_chance_79 ?_
      refine zp_X8_tossed F (by with_reducible assumption) fl_X8_163 dX8_chance_80 ?_
      refine z_aload_n F dX8_chance_83 rfl ?_
      refine z_callVv F (d_home_at J hk ho ok g1 (by rw [g3]; exact tv) (by rw [g3]; exact ha)) zm_X8_goesHome zv_X8_goesHome ml_X8_198 (by with_reducible assumption) (by decide) rfl rfl rfl (Nat.le_of_ble_eq_true rfl) dX8_chance_84 (by omega) (fun M_84 h_84 => ?_)
      replace h_84 := Eq.symm h_84
      subst h_84
      rw [g7, g8, g3]
      refine z_iload F dX8_chance_87 rfl ?_
      refine z_aload_n F dX8_chance_89 rfl ?_
      refine zg_X8_now F (by with_reducible assumption) fl_X8_16 dX8_chance_90 (fun hk_90 => ?_)
      refine z_iconst (v := 0) F dX8_chance_93 (by decide) ?_
      refine z_iald10n (q := 0) F (by with_reducible assumption) (by decide) (by rw [hz3]; omega) dX8_chance_94 ?_
      rw [zr_T, hq]
      refine z_iload_n F dX8_chance_95 rfl ?_
      refine z_ic_ne (tgt := 103) F dX8_chance_96 (by decide) (fun h_96 => ?_) (fun h_96 => ?_)
      · try simp only [e8] at h_96
        refine z_iconst (v := 0) F dX8_chance_103 (by decide) ?_
        refine z_iadd F dX8_chance_104 ?_
        refine z_istore (lv' := [_, _, _, _, _, _]) F dX8_chance_105 (by decide) rfl rfl ?_
        refine z_aload_n F dX8_chance_107 rfl ?_
        refine z_callVv F (c_X8_backs J hk ho) zm_X8_backs zv_X8_backs ml_X8_201 (by with_reducible assumption) (by decide) rfl rfl rfl (Nat.le_of_ble_eq_true rfl) dX8_chance_108 (by omega) (fun M_108 h_108 => ?_)
        replace h_108 := Eq.symm h_108
        subst h_108
        refine z_iincc (c := 1) (lv' := [_, _, _, _, _, _]) F dX8_chance_111 rfl (by decide) (by decide) rfl rfl ?_
        refine z_goto (tgt := 56) F dX8_chance_114 (by decide) ?_
        have ce : nI (chN Q x r) + 0 = nI (chN Q x (r + 1)) := by rw [chN, if_neg h_96, Int32.add_zero, Nat.add_zero]
        rw [ce, nI_1]
        refine ih (r + 1) _ (by omega) (zgf.back g1.r ((zr8 _ _ _ _).trans g9)) ?_
        rw [zs_off _ (by omega), zs_off _ (by omega), za_off _ (by omega)]
        exact (zr8 _ _ _ _).trans g9
      · try simp only [e8] at h_96
        refine z_iconst (v := 1) F dX8_chance_99 (by decide) ?_
        refine z_goto (tgt := 104) F dX8_chance_100 (by decide) ?_
        refine z_iadd F dX8_chance_104 ?_
        refine z_istore (lv' := [_, _, _, _, _, _]) F dX8_chance_105 (by decide) rfl rfl ?_
        refine z_aload_n F dX8_chance_107 rfl ?_
        refine z_callVv F (c_X8_backs J hk ho) zm_X8_backs zv_X8_backs ml_X8_201 (by with_reducible assumption) (by decide) rfl rfl rfl (Nat.le_of_ble_eq_true rfl) dX8_chance_108 (by omega) (fun M_108 h_108 => ?_)
        replace h_108 := Eq.symm h_108
        subst h_108
        refine z_iincc (c := 1) (lv' := [_, _, _, _, _, _]) F dX8_chance_111 rfl (by decide) (by decide) rfl rfl ?_
        refine z_goto (tgt := 56) F dX8_chance_114 (by decide) ?_
        have ce : nI (chN Q x r) + 1 = nI (chN Q x (r + 1)) := by rw [chN, if_pos h_96, nI_1]
        rw [ce, nI_1]
        refine ih (r + 1) _ (by omega) (zgf.back g1.r ((zr8 _ _ _ _).trans g9)) ?_
        rw [zs_off _ (by omega), zs_off _ (by omega), za_off _ (by omega)]
        exact (zr8 _ _ _ _).trans g9
  refine z_iload_n F dX8_chance_0 rfl ?_
  refine z_bipush (v := (-4)) F dX8_chance_1 (by decide) ?_
  refine z_ic_eq (tgt := 15) F dX8_chance_3 (by decide) (fun h_3 => ?_) (fun h_3 => ?_)
  · try simp only [ha] at h_3
    refine z_iload_n F dX8_chance_15 rfl ?_
    refine z_i2l F dX8_chance_16 ?_
    refine z_lconst (v := 0) F dX8_chance_17 (by decide) ?_
    refine z_lconst (v := 1) F dX8_chance_18 (by decide) ?_
    refine z_callSi F (d_X8_in J (a := 0) (b := 1) (by decide) (by decide)) zm_X8_in zst_X8_in ml_X8_72 rfl rfl (Nat.le_of_ble_eq_true rfl) dX8_chance_19 (by omega) (fun r_19 M_19 h_19 => ?_)
    obtain ⟨e_19, rfl⟩ := h_19
    replace e_19 := Eq.symm e_19
    subst e_19
    refine z_if_ne (tgt := 27) F dX8_chance_22 (by decide) (fun h_22 => ?_) (fun h_22 => ?_)
    · replace h_22 := bI_1.mp h_22
      try simp only [ha] at h_22
      refine z_bipush (v := 12) F dX8_chance_27 (by decide) ?_
      refine z_aload_n F dX8_chance_29 rfl ?_
      refine zg_X8_now F (by with_reducible assumption) fl_X8_16 dX8_chance_30 (fun hk_30 => ?_)
      refine z_iconst (v := 3) F dX8_chance_33 (by decide) ?_
      refine z_iald10n (q := 3) F (by with_reducible assumption) (by decide) (by rw [hz3]; omega) dX8_chance_34 ?_
      try simp only [ha]
      refine z_isub F dX8_chance_35 ?_
      rw [hsub]
      refine z_istore_n (lv' := [_, _, _, _, _, _]) F dX8_chance_36 (by decide) rfl rfl ?_
      refine z_iload_n F dX8_chance_37 rfl ?_
      refine z_bipush (v := 10) F dX8_chance_38 (by decide) ?_
      refine z_ic_le (tgt := 46) F dX8_chance_40 (by decide) (fun h_40 => ?_) (fun h_40 => ?_)
      · try simp only [ha] at h_40
        refine z_aload_n F dX8_chance_46 rfl ?_
        refine z_callVv F (c_X8_asides J hk ho) zm_X8_asides zv_X8_asides ml_X8_195 (by with_reducible assumption) (by decide) rfl rfl rfl (Nat.le_of_ble_eq_true rfl) dX8_chance_47 (by omega) (fun M_47 h_47 => ?_)
        replace h_47 := Eq.symm h_47
        subst h_47
        refine z_iconst (v := 0) F dX8_chance_50 (by decide) ?_
        refine z_istore (lv' := [_, _, _, _, _, _]) F dX8_chance_51 (by decide) rfl rfl ?_
        refine z_iconst (v := 0) F dX8_chance_53 (by decide) ?_
        refine z_istore (lv' := [_, _, _, _, _, _]) F dX8_chance_54 (by decide) rfl rfl ?_
        have ha2 : ¬ a < 2 := fun z => by
          have := (nI_leI (b := 10) (by omega) (by decide)).mp h_40
          omega
        have hf : zgf o M (za M (o + 8) (M.1 (o + 3))) := ⟨rfl, fun b a1 a2 a3 a4 => za_off _ a2, fun q _ _ _ => congrFun (za_off _ (by omega)) q, by rw [za_off _ (by omega)]; exact hts⟩
        refine key ?_ ha2 (2 ^ (12 - a)) 0 _ (by omega) hf (za_at _ _ _)
        first | exact fun q => q.elim (fun q => q.1 h_3) (by grind) | exact fun q => q.elim (fun q => q.2 h_12) (by grind)
      · try simp only [ha] at h_40
        refine z_bipush (v := (-3)) F dX8_chance_43 (by decide) ?_
        refine z_iret F X dX8_chance_45 ?_
        have ha2 : a < 2 := by
          have := (nI_ltI (a := 10) (by decide) (by omega)).mp h_40
          omega
        refine ⟨zgf.rf hts, ?_⟩
        rw [if_neg ?_, if_pos ha2]
        first | exact fun q => q.elim (fun q => q.1 h_3) (by grind) | exact fun q => q.elim (fun q => q.2 h_12) (by grind)
    · replace h_22 := bI_0.mp h_22
      try simp only [ha] at h_22
      refine z_iconst (v := (-1)) F dX8_chance_25 (by decide) ?_
      refine z_iret F X dX8_chance_26 ?_
      refine ⟨zgf.rf hts, (if_pos ?_).symm⟩
      first | exact Or.inl ⟨h_3, h_12⟩ | exact Or.inr (by grind)
  · try simp only [ha] at h_3
    refine z_aload_n F dX8_chance_6 rfl ?_
    refine z_iload_n F dX8_chance_7 rfl ?_
    refine z_i2l F dX8_chance_8 ?_
    refine z_callVi F (d_X8_isThing J hk hnt h10) zm_X8_isThing zv_X8_isThing ml_X8_89 (by with_reducible assumption) (by decide) rfl rfl rfl (Nat.le_of_ble_eq_true rfl) dX8_chance_9 (by omega) (fun r_9 M_9 h_9 => ?_)
    obtain ⟨e_9, rfl⟩ := h_9
    replace e_9 := Eq.symm e_9
    subst e_9
    refine z_if_eq (tgt := 25) F dX8_chance_12 (by decide) (fun h_12 => ?_) (fun h_12 => ?_)
    · replace h_12 := bI_0.mp h_12
      try simp only [ha] at h_12
      refine z_iconst (v := (-1)) F dX8_chance_25 (by decide) ?_
      refine z_iret F X dX8_chance_26 ?_
      refine ⟨zgf.rf hts, (if_pos ?_).symm⟩
      first | exact Or.inl ⟨h_3, h_12⟩ | exact Or.inr (by grind)
    · replace h_12 := bI_1.mp h_12
      try simp only [ha] at h_12
      refine z_iload_n F dX8_chance_15 rfl ?_
      refine z_i2l F dX8_chance_16 ?_
      refine z_lconst (v := 0) F dX8_chance_17 (by decide) ?_
      refine z_lconst (v := 1) F dX8_chance_18 (by decide) ?_
      refine z_callSi F (d_X8_in J (a := 0) (b := 1) (by decide) (by decide)) zm_X8_in zst_X8_in ml_X8_72 rfl rfl (Nat.le_of_ble_eq_true rfl) dX8_chance_19 (by omega) (fun r_19 M_19 h_19 => ?_)
      obtain ⟨e_19, rfl⟩ := h_19
      replace e_19 := Eq.symm e_19
      subst e_19
      refine z_if_ne (tgt := 27) F dX8_chance_22 (by decide) (fun h_22 => ?_) (fun h_22 => ?_)
      · replace h_22 := bI_1.mp h_22
        try simp only [ha] at h_22
        refine z_bipush (v := 12) F dX8_chance_27 (by decide) ?_
        refine z_aload_n F dX8_chance_29 rfl ?_
        refine zg_X8_now F (by with_reducible assumption) fl_X8_16 dX8_chance_30 (fun hk_30 => ?_)
        refine z_iconst (v := 3) F dX8_chance_33 (by decide) ?_
        refine z_iald10n (q := 3) F (by with_reducible assumption) (by decide) (by rw [hz3]; omega) dX8_chance_34 ?_
        try simp only [ha]
        refine z_isub F dX8_chance_35 ?_
        rw [hsub]
        refine z_istore_n (lv' := [_, _, _, _, _, _]) F dX8_chance_36 (by decide) rfl rfl ?_
        refine z_iload_n F dX8_chance_37 rfl ?_
        refine z_bipush (v := 10) F dX8_chance_38 (by decide) ?_
        refine z_ic_le (tgt := 46) F dX8_chance_40 (by decide) (fun h_40 => ?_) (fun h_40 => ?_)
        · try simp only [ha] at h_40
          refine z_aload_n F dX8_chance_46 rfl ?_
          refine z_callVv F (c_X8_asides J hk ho) zm_X8_asides zv_X8_asides ml_X8_195 (by with_reducible assumption) (by decide) rfl rfl rfl (Nat.le_of_ble_eq_true rfl) dX8_chance_47 (by omega) (fun M_47 h_47 => ?_)
          replace h_47 := Eq.symm h_47
          subst h_47
          refine z_iconst (v := 0) F dX8_chance_50 (by decide) ?_
          refine z_istore (lv' := [_, _, _, _, _, _]) F dX8_chance_51 (by decide) rfl rfl ?_
          refine z_iconst (v := 0) F dX8_chance_53 (by decide) ?_
          refine z_istore (lv' := [_, _, _, _, _, _]) F dX8_chance_54 (by decide) rfl rfl ?_
          have ha2 : ¬ a < 2 := fun z => by
            have := (nI_leI (b := 10) (by omega) (by decide)).mp h_40
            omega
          have hf : zgf o M (za M (o + 8) (M.1 (o + 3))) := ⟨rfl, fun b a1 a2 a3 a4 => za_off _ a2, fun q _ _ _ => congrFun (za_off _ (by omega)) q, by rw [za_off _ (by omega)]; exact hts⟩
          refine key ?_ ha2 (2 ^ (12 - a)) 0 _ (by omega) hf (za_at _ _ _)
          first | exact fun q => q.elim (fun q => q.1 h_3) (by grind) | exact fun q => q.elim (fun q => q.2 h_12) (by grind)
        · try simp only [ha] at h_40
          refine z_bipush (v := (-3)) F dX8_chance_43 (by decide) ?_
          refine z_iret F X dX8_chance_45 ?_
          have ha2 : a < 2 := by
            have := (nI_ltI (a := 10) (by decide) (by omega)).mp h_40
            omega
          refine ⟨zgf.rf hts, ?_⟩
          rw [if_neg ?_, if_pos ha2]
          first | exact fun q => q.elim (fun q => q.1 h_3) (by grind) | exact fun q => q.elim (fun q => q.2 h_12) (by grind)
      · replace h_22 := bI_0.mp h_22
        try simp only [ha] at h_22
        refine z_iconst (v := (-1)) F dX8_chance_25 (by decide) ?_
        refine z_iret F X dX8_chance_26 ?_
        refine ⟨zgf.rf hts, (if_pos ?_).symm⟩
        first | exact Or.inl ⟨h_3, h_12⟩ | exact Or.inr (by grind)
end
