/-! a road of no letters -/
theorem zs_g (M : zM) (b o : Nat) (v : Int32) (b' o' : Nat) : (zs M b o v).1 b' o' = if b' = b ∧ o' = o then v else M.1 b' o' := by
  by_cases h : b' = b
  · subst h
    rw [zs_at]
    unfold va_up
    by_cases q : o' = o
    · rw [if_pos q, if_pos ⟨rfl, q⟩]
    · rw [if_neg q, if_neg (fun z => q z.2)]
  · rw [zs_off _ h, if_neg (fun z => h z.1)]
theorem c_X8_here0 {l : Launch} {w : zE} (J : zJ w) {M : zM} (h10 : M.1 138 10 = 0) (h11 : M.1 138 11 = 0) : zCi l w yX8_here cX8_here 1 (some .int) 0 [.ref (w.2.2 138)] M (fun r M2 => M2 = M ∧ r = 0) := by
  have hk : zk 138 = 8 := by decide
  refine zCi_of J zm_X8_here [some (.ref (w.2.2 138))] (Nat.le_of_ble_eq_true rfl) rfl (fun g hg F X => ?_)
  subst hg
  refine z_aload_n F dX8_here_0 rfl ?_
  refine zg_X8_at F (by with_reducible assumption) fl_X8_124 dX8_here_1 ?_
  try simp only [h10, h11]
  refine z_aload_n F dX8_here_4 rfl ?_
  refine zg_X8_taped F (by with_reducible assumption) fl_X8_121 dX8_here_5 ?_
  try simp only [h10, h11]
  refine z_ic_ge (tgt := 38) F dX8_here_8 (by decide) (fun h_8 => ?_) (fun h_8 => absurd h_8 (by decide))
  refine z_aload_n F dX8_here_38 rfl ?_
  refine zg_X8_at F (by with_reducible assumption) fl_X8_124 dX8_here_39 ?_
  try simp only [h10, h11]
  refine z_aload_n F dX8_here_42 rfl ?_
  refine zg_X8_taped F (by with_reducible assumption) fl_X8_121 dX8_here_43 ?_
  try simp only [h10, h11]
  refine z_ic_ge (tgt := 61) F dX8_here_46 (by decide) (fun h_46 => ?_) (fun h_46 => absurd h_46 (by decide))
  refine z_iconst (v := 0) F dX8_here_61 (by decide) ?_
  refine z_iret F X dX8_here_62 ?_
  exact ⟨rfl, rfl⟩
theorem c_X8_has0 {l : Launch} {w : zE} (J : zJ w) {M : zM} {c : Int32} (h12 : M.1 138 12 = 1) : zCi l w yX8_has cX8_has 3 (some .boolean) 1 [.ref (w.2.2 138), .int c] M (fun r M2 => M2 = zs M 138 11 (M.1 138 11 + 0) ∧ r = 0) := by
  have hk : zk 138 = 8 := by decide
  refine zCi_of J zm_X8_has [some (.ref (w.2.2 138)), some (.int c), none] (Nat.le_of_ble_eq_true rfl) rfl (fun g hg F X => ?_)
  subst hg
  refine z_aload_n F dX8_has_0 rfl ?_
  refine zg_X8_wrong F (by with_reducible assumption) fl_X8_127 dX8_has_1 ?_
  try simp only [h12]
  refine z_if_ne (tgt := 19) F dX8_has_4 (by decide) (fun h_4 => ?_) (fun h_4 => absurd h_4 (by decide))
  refine z_iconst (v := 0) F dX8_has_19 (by decide) ?_
  refine z_istore_n (lv' := [_, _, _]) F dX8_has_20 (by decide) rfl rfl ?_
  refine z_aload_n F dX8_has_21 rfl ?_
  refine z_dup F dX8_has_22 rfl ?_
  refine zg_X8_at F (by with_reducible assumption) fl_X8_124 dX8_has_23 ?_
  try simp only [h12]
  refine z_iload_n F dX8_has_26 rfl ?_
  refine z_if_eq (tgt := 34) F dX8_has_27 (by decide) (fun h_27 => ?_) (fun h_27 => absurd h_27 (by decide))
  refine z_iconst (v := 0) F dX8_has_34 (by decide) ?_
  refine z_iadd F dX8_has_35 ?_
  refine zp_X8_at F (by with_reducible assumption) fl_X8_124 dX8_has_36 ?_
  refine z_iload_n F dX8_has_39 rfl ?_
  refine z_zret F X dX8_has_40 (by decide) ?_
  exact ⟨rfl, rfl⟩
theorem c_X8_number0 {l : Launch} {w : zE} (J : zJ w) {M : zM} {c : Int32} (h12 : M.1 138 12 = 1) : zCi l w yX8_number cX8_number 4 (some .int) 1 [.ref (w.2.2 138), .int c] M (fun r M2 => M2 = zs M 138 12 1 ∧ r = 0) := by
  have hk : zk 138 = 8 := by decide
  refine zCi_of J zm_X8_number [some (.ref (w.2.2 138)), some (.int c), none, none] (Nat.le_of_ble_eq_true rfl) rfl (fun g hg F X => ?_)
  subst hg
  refine z_aload_n F dX8_number_0 rfl ?_
  refine zg_X8_wrong F (by with_reducible assumption) fl_X8_127 dX8_number_1 ?_
  try simp only [h12]
  refine z_if_ne (tgt := 24) F dX8_number_4 (by decide) (fun h_4 => ?_) (fun h_4 => absurd h_4 (by decide))
  refine z_aload_n F dX8_number_24 rfl ?_
  refine z_iconst (v := 1) F dX8_number_25 (by decide) ?_
  refine zp_X8_wrong F (by with_reducible assumption) fl_X8_127 (by decide) (by decide) dX8_number_26 ?_
  refine z_iconst (v := 0) F dX8_number_29 (by decide) ?_
  refine z_iret F X dX8_number_30 ?_
  exact ⟨rfl, rfl⟩
theorem c_X8_readThing0 {l : Launch} {w : zE} (J : zJ w) {M : zM} (h10 : M.1 138 10 = 0) (h11 : M.1 138 11 = 0) (h12 : M.1 138 12 = 0) (h13 : M.1 138 13 = 0) : zCv l w yX8_readThing cX8_readThing 3 2 [.ref (w.2.2 138)] M (fun M2 => M2.1 138 11 = 0 ∧ M2.1 138 12 = 1 ∧ M2.1 138 13 = 1) := by
  have hk : zk 138 = 8 := by decide
  obtain ⟨hz1, hz2, hz3, hz4, hz5, hz6, hz7, hz8, hz9, hz10, hz11, hz12, hz13, hz14, hz15⟩ := zn8 (show 138 = 138 from rfl)
  refine zCv_of J zm_X8_readThing [some (.ref (w.2.2 138)), none, none] (Nat.le_of_ble_eq_true rfl) rfl (fun g hg F X => ?_)
  subst hg
  refine z_iconst (v := 4) F dX8_readThing_0 (by decide) ?_
  refine z_aload_n F dX8_readThing_1 rfl ?_
  refine zg_X8_manyThings F (by with_reducible assumption) fl_X8_139 dX8_readThing_2 ?_
  try simp +decide only [zs_g, if_true, if_false, h10, h11, h12, h13]
  refine z_imul F dX8_readThing_5 ?_
  refine z_istore_n (lv' := [_, _, _]) F dX8_readThing_6 (by decide) rfl rfl ?_
  refine z_aload_n F dX8_readThing_7 rfl ?_
  refine zg_X8_wrong F (by with_reducible assumption) fl_X8_127 dX8_readThing_8 ?_
  try simp +decide only [zs_g, if_true, if_false, h10, h11, h12, h13]
  refine z_if_eq (tgt := 18) F dX8_readThing_11 (by decide) (fun h_11 => ?_) (fun h_11 => absurd h_11 (by decide))
  refine z_aload_n F dX8_readThing_18 rfl ?_
  refine z_callVi F (c_X8_here0 J (by simp +decide only [zs_g, if_true, if_false, h10]) (by simp +decide only [zs_g, if_true, if_false, h11])) zm_X8_here zv_X8_here ml_X8_131 (by with_reducible assumption) (by decide) rfl rfl rfl (Nat.le_of_ble_eq_true rfl) dX8_readThing_19 (by omega) (fun r_19 M_19 h_19 => ?_)
  obtain ⟨e_19, rfl⟩ := h_19
  replace e_19 := Eq.symm e_19
  subst e_19
  refine z_istore_n (lv' := [_, _, _]) F dX8_readThing_22 (by decide) rfl rfl ?_
  refine z_aload_n F dX8_readThing_23 rfl ?_
  refine zg_X8_readThings F (by with_reducible assumption) fl_X8_22 dX8_readThing_24 (fun hk_24 => ?_)
  refine z_iload_n F dX8_readThing_27 rfl ?_
  refine z_iload_n F dX8_readThing_28 rfl ?_
  refine z_bipush (v := 112) F dX8_readThing_29 (by decide) ?_
  refine z_ic_ne (tgt := 38) F dX8_readThing_31 (by decide) (fun h_31 => ?_) (fun h_31 => absurd h_31 (by decide))
  refine z_iload_n F dX8_readThing_38 rfl ?_
  refine z_bipush (v := 98) F dX8_readThing_39 (by decide) ?_
  refine z_ic_ne (tgt := 48) F dX8_readThing_41 (by decide) (fun h_41 => ?_) (fun h_41 => absurd h_41 (by decide))
  refine z_iload_n F dX8_readThing_48 rfl ?_
  refine z_bipush (v := 117) F dX8_readThing_49 (by decide) ?_
  refine z_ic_ne (tgt := 58) F dX8_readThing_51 (by decide) (fun h_51 => ?_) (fun h_51 => absurd h_51 (by decide))
  refine z_iconst (v := 3) F dX8_readThing_58 (by decide) ?_
  refine z_iast10n (q := 0) F (by with_reducible assumption) (by decide) (by rw [hz5]; omega) dX8_readThing_59 ?_
  refine z_aload_n F dX8_readThing_60 rfl ?_
  refine z_aload_n F dX8_readThing_61 rfl ?_
  refine zg_X8_wrong F (by with_reducible assumption) fl_X8_127 dX8_readThing_62 ?_
  try simp +decide only [zs_g, if_true, if_false, h10, h11, h12, h13]
  refine z_if_ne (tgt := 92) F dX8_readThing_65 (by decide) (fun h_65 => absurd h_65 (by decide)) (fun h_65 => ?_)
  refine z_iload_n F dX8_readThing_68 rfl ?_
  refine z_bipush (v := 112) F dX8_readThing_69 (by decide) ?_
  refine z_ic_eq (tgt := 96) F dX8_readThing_71 (by decide) (fun h_71 => absurd h_71 (by decide)) (fun h_71 => ?_)
  refine z_iload_n F dX8_readThing_74 rfl ?_
  refine z_bipush (v := 98) F dX8_readThing_75 (by decide) ?_
  refine z_ic_eq (tgt := 96) F dX8_readThing_77 (by decide) (fun h_77 => absurd h_77 (by decide)) (fun h_77 => ?_)
  refine z_iload_n F dX8_readThing_80 rfl ?_
  refine z_bipush (v := 117) F dX8_readThing_81 (by decide) ?_
  refine z_ic_eq (tgt := 96) F dX8_readThing_83 (by decide) (fun h_83 => absurd h_83 (by decide)) (fun h_83 => ?_)
  refine z_iload_n F dX8_readThing_86 rfl ?_
  refine z_bipush (v := 109) F dX8_readThing_87 (by decide) ?_
  refine z_ic_eq (tgt := 96) F dX8_readThing_89 (by decide) (fun h_89 => absurd h_89 (by decide)) (fun h_89 => ?_)
  refine z_iconst (v := 1) F dX8_readThing_92 (by decide) ?_
  refine z_goto (tgt := 97) F dX8_readThing_93 (by decide) ?_
  refine zp_X8_wrong F (by with_reducible assumption) fl_X8_127 (by decide) (by decide) dX8_readThing_97 ?_
  refine z_aload_n F dX8_readThing_100 rfl ?_
  refine z_dup F dX8_readThing_101 rfl ?_
  refine zg_X8_at F (by with_reducible assumption) fl_X8_124 dX8_readThing_102 ?_
  try simp +decide only [zs_g, if_true, if_false, h10, h11, h12, h13]
  refine z_aload_n F dX8_readThing_105 rfl ?_
  refine zg_X8_wrong F (by with_reducible assumption) fl_X8_127 dX8_readThing_106 ?_
  try simp +decide only [zs_g, if_true, if_false, h10, h11, h12, h13]
  refine z_if_eq (tgt := 116) F dX8_readThing_109 (by decide) (fun h_109 => absurd h_109 (by decide)) (fun h_109 => ?_)
  refine z_iconst (v := 0) F dX8_readThing_112 (by decide) ?_
  refine z_goto (tgt := 117) F dX8_readThing_113 (by decide) ?_
  refine z_iadd F dX8_readThing_117 ?_
  refine zp_X8_at F (by with_reducible assumption) fl_X8_124 dX8_readThing_118 ?_
  refine z_aload_n F dX8_readThing_121 rfl ?_
  refine zg_X8_readThings F (by with_reducible assumption) fl_X8_22 dX8_readThing_122 (fun hk_122 => ?_)
  refine z_iload_n F dX8_readThing_125 rfl ?_
  refine z_iconst (v := 1) F dX8_readThing_126 (by decide) ?_
  refine z_iadd F dX8_readThing_127 ?_
  refine z_aload_n F dX8_readThing_128 rfl ?_
  refine z_bipush (v := 99) F dX8_readThing_129 (by decide) ?_
  refine z_callVi F (c_X8_number0 J (by simp +decide only [zs_g, if_true, if_false])) zm_X8_number zv_X8_number ml_X8_142 (by with_reducible assumption) (by decide) rfl rfl rfl (Nat.le_of_ble_eq_true rfl) dX8_readThing_131 (by omega) (fun r_131 M_131 h_131 => ?_)
  obtain ⟨e_131, rfl⟩ := h_131
  replace e_131 := Eq.symm e_131
  subst e_131
  refine z_iast10n (q := 1) F (by with_reducible assumption) (by decide) (by rw [hz5]; omega) dX8_readThing_134 ?_
  refine z_aload_n F dX8_readThing_135 rfl ?_
  refine zg_X8_readThings F (by with_reducible assumption) fl_X8_22 dX8_readThing_136 (fun hk_136 => ?_)
  refine z_iload_n F dX8_readThing_139 rfl ?_
  refine z_iconst (v := 2) F dX8_readThing_140 (by decide) ?_
  refine z_iadd F dX8_readThing_141 ?_
  refine z_aload_n F dX8_readThing_142 rfl ?_
  refine z_bipush (v := 108) F dX8_readThing_143 (by decide) ?_
  refine z_callVi F (c_X8_has0 J (by simp +decide only [zs_g, if_true, if_false])) zm_X8_has zv_X8_has ml_X8_145 (by with_reducible assumption) (by decide) rfl rfl rfl (Nat.le_of_ble_eq_true rfl) dX8_readThing_145 (by omega) (fun r_145 M_145 h_145 => ?_)
  obtain ⟨e_145, rfl⟩ := h_145
  replace e_145 := Eq.symm e_145
  subst e_145
  refine z_if_eq (tgt := 160) F dX8_readThing_148 (by decide) (fun h_148 => ?_) (fun h_148 => absurd h_148 (by decide))
  refine z_iconst (v := 0) F dX8_readThing_160 (by decide) ?_
  refine z_iast10n (q := 2) F (by with_reducible assumption) (by decide) (by rw [hz5]; omega) dX8_readThing_161 ?_
  refine z_aload_n F dX8_readThing_162 rfl ?_
  refine zg_X8_readThings F (by with_reducible assumption) fl_X8_22 dX8_readThing_163 (fun hk_163 => ?_)
  refine z_iload_n F dX8_readThing_166 rfl ?_
  refine z_iconst (v := 3) F dX8_readThing_167 (by decide) ?_
  refine z_iadd F dX8_readThing_168 ?_
  refine z_aload_n F dX8_readThing_169 rfl ?_
  refine z_bipush (v := 99) F dX8_readThing_170 (by decide) ?_
  refine z_callVi F (c_X8_has0 J (by simp +decide only [zs_g, if_true, if_false])) zm_X8_has zv_X8_has ml_X8_145 (by with_reducible assumption) (by decide) rfl rfl rfl (Nat.le_of_ble_eq_true rfl) dX8_readThing_172 (by omega) (fun r_172 M_172 h_172 => ?_)
  obtain ⟨e_172, rfl⟩ := h_172
  replace e_172 := Eq.symm e_172
  subst e_172
  refine z_if_eq (tgt := 187) F dX8_readThing_175 (by decide) (fun h_175 => ?_) (fun h_175 => absurd h_175 (by decide))
  refine z_iconst (v := 0) F dX8_readThing_187 (by decide) ?_
  refine z_iast10n (q := 3) F (by with_reducible assumption) (by decide) (by rw [hz5]; omega) dX8_readThing_188 ?_
  refine z_aload_n F dX8_readThing_189 rfl ?_
  refine z_dup F dX8_readThing_190 rfl ?_
  refine zg_X8_manyThings F (by with_reducible assumption) fl_X8_139 dX8_readThing_191 ?_
  try simp +decide only [zs_g, if_true, if_false, h10, h11, h12, h13]
  refine z_iconst (v := 1) F dX8_readThing_194 (by decide) ?_
  refine z_iadd F dX8_readThing_195 ?_
  refine zp_X8_manyThings F (by with_reducible assumption) fl_X8_139 dX8_readThing_196 ?_
  refine z_vret F X dX8_readThing_199 ?_
  refine ⟨?_, ?_, ?_⟩ <;> simp +decide only [zs_g, if_true, if_false, h11, h13]
theorem c_X8_road0 {l : Launch} {w : zE} (J : zJ w) {M : zM} (h10 : M.1 138 10 = 0) : zCi l w yX8_road cX8_road 3 (some .int) 3 [.ref (w.2.2 138)] M (fun r _ => r = -20) := by
  have hk : zk 138 = 8 := by decide
  refine zCi_of J zm_X8_road [some (.ref (w.2.2 138)), none, none] (Nat.le_of_ble_eq_true rfl) rfl (fun g hg F X => ?_)
  subst hg
  refine z_aload_n F dX8_road_0 rfl ?_
  refine z_iconst (v := 0) F dX8_road_1 (by decide) ?_
  refine zp_X8_at F (by with_reducible assumption) fl_X8_124 dX8_road_2 ?_
  refine z_aload_n F dX8_road_5 rfl ?_
  refine z_iconst (v := 0) F dX8_road_6 (by decide) ?_
  refine zp_X8_wrong F (by with_reducible assumption) fl_X8_127 (by decide) (by decide) dX8_road_7 ?_
  refine z_aload_n F dX8_road_10 rfl ?_
  refine z_iconst (v := 0) F dX8_road_11 (by decide) ?_
  refine zp_X8_manyThings F (by with_reducible assumption) fl_X8_139 dX8_road_12 ?_
  refine z_aload_n F dX8_road_15 rfl ?_
  refine z_iconst (v := 0) F dX8_road_16 (by decide) ?_
  refine zp_X8_manyPeople F (by with_reducible assumption) fl_X8_148 dX8_road_17 ?_
  refine z_aload_n F dX8_road_20 rfl ?_
  refine z_bipush (v := (-4)) F dX8_road_21 (by decide) ?_
  refine zp_X8_his F (by with_reducible assumption) fl_X8_154 dX8_road_23 ?_
  refine z_iconst (v := 1) F dX8_road_26 (by decide) ?_
  refine z_istore_n (lv' := [_, _, _]) F dX8_road_27 (by decide) rfl rfl ?_
  refine z_iload_n F dX8_road_28 rfl ?_
  refine z_if_eq (tgt := 63) F dX8_road_29 (by decide) (fun h_29 => absurd h_29 (by decide)) (fun h_29 => ?_)
  refine z_aload_n F dX8_road_32 rfl ?_
  refine z_callVv F (c_X8_readThing0 J (by simp +decide only [zs_g, if_true, if_false, h10]) (by simp +decide only [zs_g, if_true, if_false]) (by simp +decide only [zs_g, if_true, if_false]) (by simp +decide only [zs_g, if_true, if_false])) zm_X8_readThing zv_X8_readThing ml_X8_157 (by with_reducible assumption) (by decide) rfl rfl rfl (Nat.le_of_ble_eq_true rfl) dX8_road_33 (by omega) (fun M_33 h_33 => ?_)
  have e_33 := h_33
  refine z_aload_n F dX8_road_36 rfl ?_
  refine zg_X8_manyThings F (by with_reducible assumption) fl_X8_139 dX8_road_37 ?_
  try simp +decide only [zs_g, if_true, if_false, e_33.1, e_33.2.1, e_33.2.2]
  refine z_bipush (v := 10) F dX8_road_40 (by decide) ?_
  refine z_ic_ge (tgt := 58) F dX8_road_42 (by decide) (fun h_42 => absurd h_42 (by decide)) (fun h_42 => ?_)
  refine z_aload_n F dX8_road_45 rfl ?_
  refine z_bipush (v := 44) F dX8_road_46 (by decide) ?_
  refine z_callVi F (c_X8_has0 J (by simp +decide only [zs_g, if_true, if_false, e_33.2.1])) zm_X8_has zv_X8_has ml_X8_145 (by with_reducible assumption) (by decide) rfl rfl rfl (Nat.le_of_ble_eq_true rfl) dX8_road_48 (by omega) (fun r_48 M_48 h_48 => ?_)
  obtain ⟨e_48, rfl⟩ := h_48
  replace e_48 := Eq.symm e_48
  subst e_48
  refine z_if_eq (tgt := 58) F dX8_road_51 (by decide) (fun h_51 => ?_) (fun h_51 => absurd h_51 (by decide))
  refine z_iconst (v := 0) F dX8_road_58 (by decide) ?_
  refine z_istore_n (lv' := [_, _, _]) F dX8_road_59 (by decide) rfl rfl ?_
  refine z_goto (tgt := 28) F dX8_road_60 (by decide) ?_
  refine z_iload_n F dX8_road_28 rfl ?_
  refine z_if_eq (tgt := 63) F dX8_road_29 (by decide) (fun h_29x => ?_) (fun h_29x => absurd h_29x (by decide))
  refine z_aload_n F dX8_road_63 rfl ?_
  refine z_bipush (v := 59) F dX8_road_64 (by decide) ?_
  refine z_callVi F (c_X8_has0 J (by simp +decide only [zs_g, if_true, if_false, e_33.2.1])) zm_X8_has zv_X8_has ml_X8_145 (by with_reducible assumption) (by decide) rfl rfl rfl (Nat.le_of_ble_eq_true rfl) dX8_road_66 (by omega) (fun r_66 M_66 h_66 => ?_)
  obtain ⟨e_66, rfl⟩ := h_66
  replace e_66 := Eq.symm e_66
  subst e_66
  refine z_if_eq (tgt := 181) F dX8_road_69 (by decide) (fun h_69 => ?_) (fun h_69 => absurd h_69 (by decide))
  refine z_aload_n F dX8_road_181 rfl ?_
  refine z_aload_n F dX8_road_182 rfl ?_
  refine zg_X8_wrong F (by with_reducible assumption) fl_X8_127 dX8_road_183 ?_
  try simp +decide only [zs_g, if_true, if_false, e_33.1, e_33.2.1, e_33.2.2]
  refine z_if_ne (tgt := 196) F dX8_road_186 (by decide) (fun h_186 => ?_) (fun h_186 => absurd h_186 (by decide))
  refine z_iconst (v := 1) F dX8_road_196 (by decide) ?_
  refine z_goto (tgt := 201) F dX8_road_197 (by decide) ?_
  refine zp_X8_wrong F (by with_reducible assumption) fl_X8_127 (by decide) (by decide) dX8_road_201 ?_
  refine z_aload_n F dX8_road_204 rfl ?_
  refine z_iconst (v := 0) F dX8_road_205 (by decide) ?_
  refine zp_X8_taped F (by with_reducible assumption) fl_X8_121 dX8_road_206 ?_
  refine z_aload_n F dX8_road_209 rfl ?_
  refine zg_X8_wrong F (by with_reducible assumption) fl_X8_127 dX8_road_210 ?_
  try simp +decide only [zs_g, if_true, if_false, e_33.1, e_33.2.1, e_33.2.2]
  refine z_if_eq (tgt := 224) F dX8_road_213 (by decide) (fun h_213 => absurd h_213 (by decide)) (fun h_213 => ?_)
  refine z_bipush (v := (-20)) F dX8_road_216 (by decide) ?_
  refine z_aload_n F dX8_road_218 rfl ?_
  refine zg_X8_at F (by with_reducible assumption) fl_X8_124 dX8_road_219 ?_
  try simp +decide only [zs_g, if_true, if_false, e_33.1, e_33.2.1, e_33.2.2]
  refine z_isub F dX8_road_222 ?_
  refine z_iret F X dX8_road_223 ?_
  decide
