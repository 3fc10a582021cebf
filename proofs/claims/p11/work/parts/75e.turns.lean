/-! one of the two who meet takes his turn -/
theorem va_g {α : Type} (f : Nat → α) (k : Nat) (v : α) (j : Nat) : va_up f k v j = if j = k then v else f j := rfl
abbrev trnM (th T : zF1) (a : Nat) : Prop := feltF th (T a).toNatClampNeg 0 (T (a + 1) + 1) < feltF th (T a).toNatClampNeg 1 (T (a + 1) + 1)
def trnm (th T : zF1) (a : Nat) : Int32 := if trnM th T a then 1 else 0
abbrev trnP (th T : zF1) (a b : Nat) : Prop := feltF th (T b).toNatClampNeg (trnm th T a) 0 < (if trnM th T a then feltF th (T a).toNatClampNeg 1 (T (a + 1) + 1) else feltF th (T a).toNatClampNeg 0 (T (a + 1) + 1)) ∧ wrt th (T a) - wrt th (T b) ≤ T (a + 3)
def trn1 (th T : zF1) (a : Nat) : zF1 := va_up (va_up T (a + 1) (T (a + 1) + 1)) (a + 2) (trnm th T a)
def trnF (th T : zF1) (a b : Nat) : zF1 := if trnP th T a b then va_up (va_up (va_up (va_up (trn1 th T a) a (T b)) b (T a)) (a + 1) 0) (b + 1) 0 else trn1 th T a
theorem c_X8_turnsA {l : Launch} {w : zE} (J : zJ w) {M : zM} {o j1 j2 : Nat} (hk : zk o = 8) (ho : o = 138) (kd : kdOK (M.1 (o + 1))) (h1 : j1 < 10) (h2 : j2 < 10) (hA : M.1 (o + 10) 0 = nI j1) (hB : M.1 (o + 10) 4 = nI j2) : zCi l w yX8_turns cX8_turns 8 (some .boolean) 1 [.ref (w.2.2 o), .int 0, .int 4] M (fun r M2 => M2 = za M (o + 10) (trnF (M.1 (o + 1)) (M.1 (o + 10)) 0 4) ∧ r = bI (trnP (M.1 (o + 1)) (M.1 (o + 10)) 0 4)) := by
  obtain ⟨hz1, hz2, hz3, hz4, hz5, hz6, hz7, hz8, hz9, hz10, hz11, hz12, hz13, hz14, hz15⟩ := zn8 ho
  have e1 : ∀ (f : zF1), (za M (o + 10) f).1 (o + 1) = M.1 (o + 1) := fun f => za_off _ (by omega)
  have c1 : (nI j1).toNatClampNeg = j1 := nI_clamp (by omega)
  have c2 : (nI j2).toNatClampNeg = j2 := nI_clamp (by omega)
  have hMi : trnM (M.1 (o + 1)) (M.1 (o + 10)) 0 ↔ feltF (M.1 (o + 1)) j1 0 (M.1 (o + 10) 1 + 1) < feltF (M.1 (o + 1)) j1 1 (M.1 (o + 10) 1 + 1) := by unfold trnM; rw [hA, c1]
  have eM : M = za M (o + 10) (M.1 (o + 10)) := (za_self _ _).symm
  refine zCi_of J zm_X8_turns [some (.ref (w.2.2 o)), some (.int 0), some (.int 4), none, none, none, none, none] (Nat.le_of_ble_eq_true rfl) rfl (fun g hg F X => ?_)
  subst hg
  rw [eM]
  refine z_aload_n F dX8_turns_0 rfl ?_
  refine zg_X8_two F (by with_reducible assumption) fl_X8_37 dX8_turns_1 (fun hk_1 => ?_)
  refine z_iload_n F dX8_turns_4 rfl ?_
  refine z_iconst (v := 1) F dX8_turns_5 (by decide) ?_
  refine z_iadd F dX8_turns_6 ?_
  refine z_dup2 F dX8_turns_7 rfl rfl ?_
  refine z_iald10n (q := 1) F (by with_reducible assumption) (by decide) (by rw [hz10]; omega) dX8_turns_8 ?_
  try simp +decide only [zs_zaa, za_at, va_g, if_true, if_false, hA, hB]
  refine z_iconst (v := 1) F dX8_turns_9 (by decide) ?_
  refine z_iadd F dX8_turns_10 ?_
  refine z_iast10n (q := 1) F (by with_reducible assumption) (by decide) (by rw [hz10]; omega) dX8_turns_11 ?_
  refine z_aload_n F dX8_turns_12 rfl ?_
  refine z_aload_n F dX8_turns_13 rfl ?_
  refine zg_X8_two F (by with_reducible assumption) fl_X8_37 dX8_turns_14 (fun hk_14 => ?_)
  refine z_iload_n F dX8_turns_17 rfl ?_
  refine z_iald10n (q := 0) F (by with_reducible assumption) (by decide) (by rw [hz10]; omega) dX8_turns_18 ?_
  try simp +decide only [zs_zaa, za_at, va_g, if_true, if_false, hA, hB]
  refine z_aload_n F dX8_turns_19 rfl ?_
  refine zg_X8_two F (by with_reducible assumption) fl_X8_37 dX8_turns_20 (fun hk_20 => ?_)
  refine z_iload_n F dX8_turns_23 rfl ?_
  refine z_iconst (v := 1) F dX8_turns_24 (by decide) ?_
  refine z_iadd F dX8_turns_25 ?_
  refine z_iald10n (q := 1) F (by with_reducible assumption) (by decide) (by rw [hz10]; omega) dX8_turns_26 ?_
  try simp +decide only [zs_zaa, za_at, va_g, if_true, if_false, hA, hB]
  refine z_iconst (v := 0) F dX8_turns_27 (by decide) ?_
  refine z_callVi F (c_X8_feels J (j := j1) hk ho h1 (by rw [e1]; exact kd)) zm_X8_feels zv_X8_feels ml_X8_99 (by with_reducible assumption) (by decide) rfl rfl rfl (Nat.le_of_ble_eq_true rfl) dX8_turns_28 (by omega) (fun r_28 M_28 h_28 => ?_)
  obtain ⟨e_28, f_28⟩ := h_28
  rw [e1] at f_28
  subst f_28
  replace e_28 := Eq.symm e_28
  subst e_28
  refine z_istore_n (lv' := [_, _, _, _, _, _, _, _]) F dX8_turns_31 (by decide) rfl rfl ?_
  refine z_aload_n F dX8_turns_32 rfl ?_
  refine z_aload_n F dX8_turns_33 rfl ?_
  refine zg_X8_two F (by with_reducible assumption) fl_X8_37 dX8_turns_34 (fun hk_34 => ?_)
  refine z_iload_n F dX8_turns_37 rfl ?_
  refine z_iald10n (q := 0) F (by with_reducible assumption) (by decide) (by rw [hz10]; omega) dX8_turns_38 ?_
  try simp +decide only [zs_zaa, za_at, va_g, if_true, if_false, hA, hB]
  refine z_aload_n F dX8_turns_39 rfl ?_
  refine zg_X8_two F (by with_reducible assumption) fl_X8_37 dX8_turns_40 (fun hk_40 => ?_)
  refine z_iload_n F dX8_turns_43 rfl ?_
  refine z_iconst (v := 1) F dX8_turns_44 (by decide) ?_
  refine z_iadd F dX8_turns_45 ?_
  refine z_iald10n (q := 1) F (by with_reducible assumption) (by decide) (by rw [hz10]; omega) dX8_turns_46 ?_
  try simp +decide only [zs_zaa, za_at, va_g, if_true, if_false, hA, hB]
  refine z_iconst (v := 1) F dX8_turns_47 (by decide) ?_
  refine z_callVi F (c_X8_feels J (j := j1) hk ho h1 (by rw [e1]; exact kd)) zm_X8_feels zv_X8_feels ml_X8_99 (by with_reducible assumption) (by decide) rfl rfl rfl (Nat.le_of_ble_eq_true rfl) dX8_turns_48 (by omega) (fun r_48 M_48 h_48 => ?_)
  obtain ⟨e_48, f_48⟩ := h_48
  rw [e1] at f_48
  subst f_48
  replace e_48 := Eq.symm e_48
  subst e_48
  refine z_istore (lv' := [_, _, _, _, _, _, _, _]) F dX8_turns_51 (by decide) rfl rfl ?_
  refine z_aload_n F dX8_turns_53 rfl ?_
  refine zg_X8_two F (by with_reducible assumption) fl_X8_37 dX8_turns_54 (fun hk_54 => ?_)
  refine z_iload_n F dX8_turns_57 rfl ?_
  refine z_iconst (v := 2) F dX8_turns_58 (by decide) ?_
  refine z_iadd F dX8_turns_59 ?_
  refine z_iload_n F dX8_turns_60 rfl ?_
  refine z_iload F dX8_turns_61 rfl ?_
  refine z_ic_lt (tgt := 70) F dX8_turns_63 (by decide) (fun h_63 => ?_) (fun h_63 => ?_)
  · refine z_iconst (v := 1) F dX8_turns_70 (by decide) ?_
    refine z_iast10n (q := 2) F (by with_reducible assumption) (by decide) (by rw [hz10]; omega) dX8_turns_71 ?_
    refine z_iload_n F dX8_turns_72 rfl ?_
    refine z_iload F dX8_turns_73 rfl ?_
    refine z_ic_lt (tgt := 82) F dX8_turns_75 (by decide) (fun h_75 => ?_) (fun h_75 => absurd h_75 (nle h_63))
    refine z_iload F dX8_turns_82 rfl ?_
    refine z_istore (lv' := [_, _, _, _, _, _, _, _]) F dX8_turns_84 (by decide) rfl rfl ?_
    refine z_iload F dX8_turns_86 rfl ?_
    refine z_aload_n F dX8_turns_88 rfl ?_
    refine z_aload_n F dX8_turns_89 rfl ?_
    refine zg_X8_two F (by with_reducible assumption) fl_X8_37 dX8_turns_90 (fun hk_90 => ?_)
    refine z_iload_n F dX8_turns_93 rfl ?_
    refine z_iald10n (q := 4) F (by with_reducible assumption) (by decide) (by rw [hz10]; omega) dX8_turns_94 ?_
    try simp +decide only [zs_zaa, za_at, va_g, if_true, if_false, hA, hB]
    refine z_iconst (v := 0) F dX8_turns_95 (by decide) ?_
    refine z_aload_n F dX8_turns_96 rfl ?_
    refine zg_X8_two F (by with_reducible assumption) fl_X8_37 dX8_turns_97 (fun hk_97 => ?_)
    refine z_iload_n F dX8_turns_100 rfl ?_
    refine z_iconst (v := 2) F dX8_turns_101 (by decide) ?_
    refine z_iadd F dX8_turns_102 ?_
    refine z_iald10n (q := 2) F (by with_reducible assumption) (by decide) (by rw [hz10]; omega) dX8_turns_103 ?_
    try simp +decide only [zs_zaa, za_at, va_g, if_true, if_false, hA, hB]
    refine z_callVi F (c_X8_feels J (j := j2) hk ho h2 (by rw [e1]; exact kd)) zm_X8_feels zv_X8_feels ml_X8_99 (by with_reducible assumption) (by decide) rfl rfl rfl (Nat.le_of_ble_eq_true rfl) dX8_turns_104 (by omega) (fun r_104 M_104 h_104 => ?_)
    obtain ⟨e_104, f_104⟩ := h_104
    rw [e1] at f_104
    subst f_104
    replace e_104 := Eq.symm e_104
    subst e_104
    refine z_ic_le (tgt := 146) F dX8_turns_107 (by decide) (fun h_107 => ?_) (fun h_107 => ?_)
    · refine z_iconst (v := 0) F dX8_turns_146 (by decide) ?_
      refine z_istore (lv' := [_, _, _, _, _, _, _, _]) F dX8_turns_147 (by decide) rfl rfl ?_
      refine z_iload F dX8_turns_149 rfl ?_
      refine z_if_eq (tgt := 200) F dX8_turns_151 (by decide) (fun h_151 => ?_) (fun h_151 => absurd h_151 (by decide))
      refine z_iload F dX8_turns_200 rfl ?_
      refine z_zret F X dX8_turns_202 (by decide) ?_
      try simp only [zs_zaa]
      have hm : trnM (M.1 (o + 1)) (M.1 (o + 10)) 0 := hMi.mpr h_63
      have em : trnm (M.1 (o + 1)) (M.1 (o + 10)) 0 = 1 := if_pos hm
      have hp : ¬ trnP (M.1 (o + 1)) (M.1 (o + 10)) 0 4 := fun z => by
        have z1 := z.1
        rw [em, if_pos hm, hB, c2, hA, c1] at z1
        exact nlt h_107 z1
      refine ⟨?_, bI_f hp⟩
      rw [trnF, if_neg hp, trn1, em]
    · refine z_aload_n F dX8_turns_110 rfl ?_
      refine z_aload_n F dX8_turns_111 rfl ?_
      refine zg_X8_two F (by with_reducible assumption) fl_X8_37 dX8_turns_112 (fun hk_112 => ?_)
      refine z_iload_n F dX8_turns_115 rfl ?_
      refine z_iald10n (q := 0) F (by with_reducible assumption) (by decide) (by rw [hz10]; omega) dX8_turns_116 ?_
      try simp +decide only [zs_zaa, za_at, va_g, if_true, if_false, hA, hB]
      refine z_callVi F (c_X8_worth J (nt := 10) hk ho (Or.inr ⟨j1, h1, rfl⟩) (by decide)) zm_X8_worth zv_X8_worth ml_X8_173 (by with_reducible assumption) (by decide) rfl rfl rfl (Nat.le_of_ble_eq_true rfl) dX8_turns_117 (by omega) (fun r_117 M_117 h_117 => ?_)
      obtain ⟨e_117, f_117⟩ := h_117
      rw [e1] at f_117
      subst f_117
      replace e_117 := Eq.symm e_117
      subst e_117
      refine z_aload_n F dX8_turns_120 rfl ?_
      refine z_aload_n F dX8_turns_121 rfl ?_
      refine zg_X8_two F (by with_reducible assumption) fl_X8_37 dX8_turns_122 (fun hk_122 => ?_)
      refine z_iload_n F dX8_turns_125 rfl ?_
      refine z_iald10n (q := 4) F (by with_reducible assumption) (by decide) (by rw [hz10]; omega) dX8_turns_126 ?_
      try simp +decide only [zs_zaa, za_at, va_g, if_true, if_false, hA, hB]
      refine z_callVi F (c_X8_worth J (nt := 10) hk ho (Or.inr ⟨j2, h2, rfl⟩) (by decide)) zm_X8_worth zv_X8_worth ml_X8_173 (by with_reducible assumption) (by decide) rfl rfl rfl (Nat.le_of_ble_eq_true rfl) dX8_turns_127 (by omega) (fun r_127 M_127 h_127 => ?_)
      obtain ⟨e_127, f_127⟩ := h_127
      rw [e1] at f_127
      subst f_127
      replace e_127 := Eq.symm e_127
      subst e_127
      refine z_isub F dX8_turns_130 ?_
      refine z_aload_n F dX8_turns_131 rfl ?_
      refine zg_X8_two F (by with_reducible assumption) fl_X8_37 dX8_turns_132 (fun hk_132 => ?_)
      refine z_iload_n F dX8_turns_135 rfl ?_
      refine z_iconst (v := 3) F dX8_turns_136 (by decide) ?_
      refine z_iadd F dX8_turns_137 ?_
      refine z_iald10n (q := 3) F (by with_reducible assumption) (by decide) (by rw [hz10]; omega) dX8_turns_138 ?_
      try simp +decide only [zs_zaa, za_at, va_g, if_true, if_false, hA, hB]
      refine z_ic_gt (tgt := 146) F dX8_turns_139 (by decide) (fun h_139 => ?_) (fun h_139 => ?_)
      · refine z_iconst (v := 0) F dX8_turns_146 (by decide) ?_
        refine z_istore (lv' := [_, _, _, _, _, _, _, _]) F dX8_turns_147 (by decide) rfl rfl ?_
        refine z_iload F dX8_turns_149 rfl ?_
        refine z_if_eq (tgt := 200) F dX8_turns_151 (by decide) (fun h_151 => ?_) (fun h_151 => absurd h_151 (by decide))
        refine z_iload F dX8_turns_200 rfl ?_
        refine z_zret F X dX8_turns_202 (by decide) ?_
        try simp only [zs_zaa]
        have hm : trnM (M.1 (o + 1)) (M.1 (o + 10)) 0 := hMi.mpr h_63
        have em : trnm (M.1 (o + 1)) (M.1 (o + 10)) 0 = 1 := if_pos hm
        have hp : ¬ trnP (M.1 (o + 1)) (M.1 (o + 10)) 0 4 := fun z => by
          have z1 := z.2
          rw [hA, hB] at z1
          exact nle h_139 z1
        refine ⟨?_, bI_f hp⟩
        rw [trnF, if_neg hp, trn1, em]
      · refine z_iconst (v := 1) F dX8_turns_142 (by decide) ?_
        refine z_goto (tgt := 147) F dX8_turns_143 (by decide) ?_
        refine z_istore (lv' := [_, _, _, _, _, _, _, _]) F dX8_turns_147 (by decide) rfl rfl ?_
        refine z_iload F dX8_turns_149 rfl ?_
        refine z_if_eq (tgt := 200) F dX8_turns_151 (by decide) (fun h_151 => absurd h_151 (by decide)) (fun h_151 => ?_)
        refine z_aload_n F dX8_turns_154 rfl ?_
        refine zg_X8_two F (by with_reducible assumption) fl_X8_37 dX8_turns_155 (fun hk_155 => ?_)
        refine z_iload_n F dX8_turns_158 rfl ?_
        refine z_iald10n (q := 0) F (by with_reducible assumption) (by decide) (by rw [hz10]; omega) dX8_turns_159 ?_
        try simp +decide only [zs_zaa, za_at, va_g, if_true, if_false, hA, hB]
        refine z_istore (lv' := [_, _, _, _, _, _, _, _]) F dX8_turns_160 (by decide) rfl rfl ?_
        refine z_aload_n F dX8_turns_162 rfl ?_
        refine zg_X8_two F (by with_reducible assumption) fl_X8_37 dX8_turns_163 (fun hk_163 => ?_)
        refine z_iload_n F dX8_turns_166 rfl ?_
        refine z_aload_n F dX8_turns_167 rfl ?_
        refine zg_X8_two F (by with_reducible assumption) fl_X8_37 dX8_turns_168 (fun hk_168 => ?_)
        refine z_iload_n F dX8_turns_171 rfl ?_
        refine z_iald10n (q := 4) F (by with_reducible assumption) (by decide) (by rw [hz10]; omega) dX8_turns_172 ?_
        try simp +decide only [zs_zaa, za_at, va_g, if_true, if_false, hA, hB]
        refine z_iast10n (q := 0) F (by with_reducible assumption) (by decide) (by rw [hz10]; omega) dX8_turns_173 ?_
        refine z_aload_n F dX8_turns_174 rfl ?_
        refine zg_X8_two F (by with_reducible assumption) fl_X8_37 dX8_turns_175 (fun hk_175 => ?_)
        refine z_iload_n F dX8_turns_178 rfl ?_
        refine z_iload F dX8_turns_179 rfl ?_
        refine z_iast10n (q := 4) F (by with_reducible assumption) (by decide) (by rw [hz10]; omega) dX8_turns_181 ?_
        refine z_aload_n F dX8_turns_182 rfl ?_
        refine zg_X8_two F (by with_reducible assumption) fl_X8_37 dX8_turns_183 (fun hk_183 => ?_)
        refine z_iload_n F dX8_turns_186 rfl ?_
        refine z_iconst (v := 1) F dX8_turns_187 (by decide) ?_
        refine z_iadd F dX8_turns_188 ?_
        refine z_iconst (v := 0) F dX8_turns_189 (by decide) ?_
        refine z_iast10n (q := 1) F (by with_reducible assumption) (by decide) (by rw [hz10]; omega) dX8_turns_190 ?_
        refine z_aload_n F dX8_turns_191 rfl ?_
        refine zg_X8_two F (by with_reducible assumption) fl_X8_37 dX8_turns_192 (fun hk_192 => ?_)
        refine z_iload_n F dX8_turns_195 rfl ?_
        refine z_iconst (v := 1) F dX8_turns_196 (by decide) ?_
        refine z_iadd F dX8_turns_197 ?_
        refine z_iconst (v := 0) F dX8_turns_198 (by decide) ?_
        refine z_iast10n (q := 5) F (by with_reducible assumption) (by decide) (by rw [hz10]; omega) dX8_turns_199 ?_
        refine z_iload F dX8_turns_200 rfl ?_
        refine z_zret F X dX8_turns_202 (by decide) ?_
        try simp only [zs_zaa]
        have hm : trnM (M.1 (o + 1)) (M.1 (o + 10)) 0 := hMi.mpr h_63
        have em : trnm (M.1 (o + 1)) (M.1 (o + 10)) 0 = 1 := if_pos hm
        have hp : trnP (M.1 (o + 1)) (M.1 (o + 10)) 0 4 := ⟨by rw [em, if_pos hm, hB, c2, hA, c1]; exact h_107, by rw [hA, hB]; exact h_139⟩
        refine ⟨?_, bI_t hp⟩
        rw [trnF, if_pos hp, trn1, em, hB, hA]
  · refine z_iconst (v := 0) F dX8_turns_66 (by decide) ?_
    refine z_goto (tgt := 71) F dX8_turns_67 (by decide) ?_
    refine z_iast10n (q := 2) F (by with_reducible assumption) (by decide) (by rw [hz10]; omega) dX8_turns_71 ?_
    refine z_iload_n F dX8_turns_72 rfl ?_
    refine z_iload F dX8_turns_73 rfl ?_
    refine z_ic_lt (tgt := 82) F dX8_turns_75 (by decide) (fun h_75 => absurd h_75 (nlt h_63)) (fun h_75 => ?_)
    refine z_iload_n F dX8_turns_78 rfl ?_
    refine z_goto (tgt := 84) F dX8_turns_79 (by decide) ?_
    refine z_istore (lv' := [_, _, _, _, _, _, _, _]) F dX8_turns_84 (by decide) rfl rfl ?_
    refine z_iload F dX8_turns_86 rfl ?_
    refine z_aload_n F dX8_turns_88 rfl ?_
    refine z_aload_n F dX8_turns_89 rfl ?_
    refine zg_X8_two F (by with_reducible assumption) fl_X8_37 dX8_turns_90 (fun hk_90 => ?_)
    refine z_iload_n F dX8_turns_93 rfl ?_
    refine z_iald10n (q := 4) F (by with_reducible assumption) (by decide) (by rw [hz10]; omega) dX8_turns_94 ?_
    try simp +decide only [zs_zaa, za_at, va_g, if_true, if_false, hA, hB]
    refine z_iconst (v := 0) F dX8_turns_95 (by decide) ?_
    refine z_aload_n F dX8_turns_96 rfl ?_
    refine zg_X8_two F (by with_reducible assumption) fl_X8_37 dX8_turns_97 (fun hk_97 => ?_)
    refine z_iload_n F dX8_turns_100 rfl ?_
    refine z_iconst (v := 2) F dX8_turns_101 (by decide) ?_
    refine z_iadd F dX8_turns_102 ?_
    refine z_iald10n (q := 2) F (by with_reducible assumption) (by decide) (by rw [hz10]; omega) dX8_turns_103 ?_
    try simp +decide only [zs_zaa, za_at, va_g, if_true, if_false, hA, hB]
    refine z_callVi F (c_X8_feels J (j := j2) hk ho h2 (by rw [e1]; exact kd)) zm_X8_feels zv_X8_feels ml_X8_99 (by with_reducible assumption) (by decide) rfl rfl rfl (Nat.le_of_ble_eq_true rfl) dX8_turns_104 (by omega) (fun r_104 M_104 h_104 => ?_)
    obtain ⟨e_104, f_104⟩ := h_104
    rw [e1] at f_104
    subst f_104
    replace e_104 := Eq.symm e_104
    subst e_104
    refine z_ic_le (tgt := 146) F dX8_turns_107 (by decide) (fun h_107 => ?_) (fun h_107 => ?_)
    · refine z_iconst (v := 0) F dX8_turns_146 (by decide) ?_
      refine z_istore (lv' := [_, _, _, _, _, _, _, _]) F dX8_turns_147 (by decide) rfl rfl ?_
      refine z_iload F dX8_turns_149 rfl ?_
      refine z_if_eq (tgt := 200) F dX8_turns_151 (by decide) (fun h_151 => ?_) (fun h_151 => absurd h_151 (by decide))
      refine z_iload F dX8_turns_200 rfl ?_
      refine z_zret F X dX8_turns_202 (by decide) ?_
      try simp only [zs_zaa]
      have hm : ¬ trnM (M.1 (o + 1)) (M.1 (o + 10)) 0 := fun z => nlt h_63 (hMi.mp z)
      have em : trnm (M.1 (o + 1)) (M.1 (o + 10)) 0 = 0 := if_neg hm
      have hp : ¬ trnP (M.1 (o + 1)) (M.1 (o + 10)) 0 4 := fun z => by
        have z1 := z.1
        rw [em, if_neg hm, hB, c2, hA, c1] at z1
        exact nlt h_107 z1
      refine ⟨?_, bI_f hp⟩
      rw [trnF, if_neg hp, trn1, em]
    · refine z_aload_n F dX8_turns_110 rfl ?_
      refine z_aload_n F dX8_turns_111 rfl ?_
      refine zg_X8_two F (by with_reducible assumption) fl_X8_37 dX8_turns_112 (fun hk_112 => ?_)
      refine z_iload_n F dX8_turns_115 rfl ?_
      refine z_iald10n (q := 0) F (by with_reducible assumption) (by decide) (by rw [hz10]; omega) dX8_turns_116 ?_
      try simp +decide only [zs_zaa, za_at, va_g, if_true, if_false, hA, hB]
      refine z_callVi F (c_X8_worth J (nt := 10) hk ho (Or.inr ⟨j1, h1, rfl⟩) (by decide)) zm_X8_worth zv_X8_worth ml_X8_173 (by with_reducible assumption) (by decide) rfl rfl rfl (Nat.le_of_ble_eq_true rfl) dX8_turns_117 (by omega) (fun r_117 M_117 h_117 => ?_)
      obtain ⟨e_117, f_117⟩ := h_117
      rw [e1] at f_117
      subst f_117
      replace e_117 := Eq.symm e_117
      subst e_117
      refine z_aload_n F dX8_turns_120 rfl ?_
      refine z_aload_n F dX8_turns_121 rfl ?_
      refine zg_X8_two F (by with_reducible assumption) fl_X8_37 dX8_turns_122 (fun hk_122 => ?_)
      refine z_iload_n F dX8_turns_125 rfl ?_
      refine z_iald10n (q := 4) F (by with_reducible assumption) (by decide) (by rw [hz10]; omega) dX8_turns_126 ?_
      try simp +decide only [zs_zaa, za_at, va_g, if_true, if_false, hA, hB]
      refine z_callVi F (c_X8_worth J (nt := 10) hk ho (Or.inr ⟨j2, h2, rfl⟩) (by decide)) zm_X8_worth zv_X8_worth ml_X8_173 (by with_reducible assumption) (by decide) rfl rfl rfl (Nat.le_of_ble_eq_true rfl) dX8_turns_127 (by omega) (fun r_127 M_127 h_127 => ?_)
      obtain ⟨e_127, f_127⟩ := h_127
      rw [e1] at f_127
      subst f_127
      replace e_127 := Eq.symm e_127
      subst e_127
      refine z_isub F dX8_turns_130 ?_
      refine z_aload_n F dX8_turns_131 rfl ?_
      refine zg_X8_two F (by with_reducible assumption) fl_X8_37 dX8_turns_132 (fun hk_132 => ?_)
      refine z_iload_n F dX8_turns_135 rfl ?_
      refine z_iconst (v := 3) F dX8_turns_136 (by decide) ?_
      refine z_iadd F dX8_turns_137 ?_
      refine z_iald10n (q := 3) F (by with_reducible assumption) (by decide) (by rw [hz10]; omega) dX8_turns_138 ?_
      try simp +decide only [zs_zaa, za_at, va_g, if_true, if_false, hA, hB]
      refine z_ic_gt (tgt := 146) F dX8_turns_139 (by decide) (fun h_139 => ?_) (fun h_139 => ?_)
      · refine z_iconst (v := 0) F dX8_turns_146 (by decide) ?_
        refine z_istore (lv' := [_, _, _, _, _, _, _, _]) F dX8_turns_147 (by decide) rfl rfl ?_
        refine z_iload F dX8_turns_149 rfl ?_
        refine z_if_eq (tgt := 200) F dX8_turns_151 (by decide) (fun h_151 => ?_) (fun h_151 => absurd h_151 (by decide))
        refine z_iload F dX8_turns_200 rfl ?_
        refine z_zret F X dX8_turns_202 (by decide) ?_
        try simp only [zs_zaa]
        have hm : ¬ trnM (M.1 (o + 1)) (M.1 (o + 10)) 0 := fun z => nlt h_63 (hMi.mp z)
        have em : trnm (M.1 (o + 1)) (M.1 (o + 10)) 0 = 0 := if_neg hm
        have hp : ¬ trnP (M.1 (o + 1)) (M.1 (o + 10)) 0 4 := fun z => by
          have z1 := z.2
          rw [hA, hB] at z1
          exact nle h_139 z1
        refine ⟨?_, bI_f hp⟩
        rw [trnF, if_neg hp, trn1, em]
      · refine z_iconst (v := 1) F dX8_turns_142 (by decide) ?_
        refine z_goto (tgt := 147) F dX8_turns_143 (by decide) ?_
        refine z_istore (lv' := [_, _, _, _, _, _, _, _]) F dX8_turns_147 (by decide) rfl rfl ?_
        refine z_iload F dX8_turns_149 rfl ?_
        refine z_if_eq (tgt := 200) F dX8_turns_151 (by decide) (fun h_151 => absurd h_151 (by decide)) (fun h_151 => ?_)
        refine z_aload_n F dX8_turns_154 rfl ?_
        refine zg_X8_two F (by with_reducible assumption) fl_X8_37 dX8_turns_155 (fun hk_155 => ?_)
        refine z_iload_n F dX8_turns_158 rfl ?_
        refine z_iald10n (q := 0) F (by with_reducible assumption) (by decide) (by rw [hz10]; omega) dX8_turns_159 ?_
        try simp +decide only [zs_zaa, za_at, va_g, if_true, if_false, hA, hB]
        refine z_istore (lv' := [_, _, _, _, _, _, _, _]) F dX8_turns_160 (by decide) rfl rfl ?_
        refine z_aload_n F dX8_turns_162 rfl ?_
        refine zg_X8_two F (by with_reducible assumption) fl_X8_37 dX8_turns_163 (fun hk_163 => ?_)
        refine z_iload_n F dX8_turns_166 rfl ?_
        refine z_aload_n F dX8_turns_167 rfl ?_
        refine zg_X8_two F (by with_reducible assumption) fl_X8_37 dX8_turns_168 (fun hk_168 => ?_)
        refine z_iload_n F dX8_turns_171 rfl ?_
        refine z_iald10n (q := 4) F (by with_reducible assumption) (by decide) (by rw [hz10]; omega) dX8_turns_172 ?_
        try simp +decide only [zs_zaa, za_at, va_g, if_true, if_false, hA, hB]
        refine z_iast10n (q := 0) F (by with_reducible assumption) (by decide) (by rw [hz10]; omega) dX8_turns_173 ?_
        refine z_aload_n F dX8_turns_174 rfl ?_
        refine zg_X8_two F (by with_reducible assumption) fl_X8_37 dX8_turns_175 (fun hk_175 => ?_)
        refine z_iload_n F dX8_turns_178 rfl ?_
        refine z_iload F dX8_turns_179 rfl ?_
        refine z_iast10n (q := 4) F (by with_reducible assumption) (by decide) (by rw [hz10]; omega) dX8_turns_181 ?_
        refine z_aload_n F dX8_turns_182 rfl ?_
        refine zg_X8_two F (by with_reducible assumption) fl_X8_37 dX8_turns_183 (fun hk_183 => ?_)
        refine z_iload_n F dX8_turns_186 rfl ?_
        refine z_iconst (v := 1) F dX8_turns_187 (by decide) ?_
        refine z_iadd F dX8_turns_188 ?_
        refine z_iconst (v := 0) F dX8_turns_189 (by decide) ?_
        refine z_iast10n (q := 1) F (by with_reducible assumption) (by decide) (by rw [hz10]; omega) dX8_turns_190 ?_
        refine z_aload_n F dX8_turns_191 rfl ?_
        refine zg_X8_two F (by with_reducible assumption) fl_X8_37 dX8_turns_192 (fun hk_192 => ?_)
        refine z_iload_n F dX8_turns_195 rfl ?_
        refine z_iconst (v := 1) F dX8_turns_196 (by decide) ?_
        refine z_iadd F dX8_turns_197 ?_
        refine z_iconst (v := 0) F dX8_turns_198 (by decide) ?_
        refine z_iast10n (q := 5) F (by with_reducible assumption) (by decide) (by rw [hz10]; omega) dX8_turns_199 ?_
        refine z_iload F dX8_turns_200 rfl ?_
        refine z_zret F X dX8_turns_202 (by decide) ?_
        try simp only [zs_zaa]
        have hm : ¬ trnM (M.1 (o + 1)) (M.1 (o + 10)) 0 := fun z => nlt h_63 (hMi.mp z)
        have em : trnm (M.1 (o + 1)) (M.1 (o + 10)) 0 = 0 := if_neg hm
        have hp : trnP (M.1 (o + 1)) (M.1 (o + 10)) 0 4 := ⟨by rw [em, if_neg hm, hB, c2, hA, c1]; exact h_107, by rw [hA, hB]; exact h_139⟩
        refine ⟨?_, bI_t hp⟩
        rw [trnF, if_pos hp, trn1, em, hB, hA]
theorem c_X8_turnsB {l : Launch} {w : zE} (J : zJ w) {M : zM} {o j1 j2 : Nat} (hk : zk o = 8) (ho : o = 138) (kd : kdOK (M.1 (o + 1))) (h1 : j1 < 10) (h2 : j2 < 10) (hA : M.1 (o + 10) 4 = nI j1) (hB : M.1 (o + 10) 0 = nI j2) : zCi l w yX8_turns cX8_turns 8 (some .boolean) 1 [.ref (w.2.2 o), .int 4, .int 0] M (fun r M2 => M2 = za M (o + 10) (trnF (M.1 (o + 1)) (M.1 (o + 10)) 4 0) ∧ r = bI (trnP (M.1 (o + 1)) (M.1 (o + 10)) 4 0)) := by
  obtain ⟨hz1, hz2, hz3, hz4, hz5, hz6, hz7, hz8, hz9, hz10, hz11, hz12, hz13, hz14, hz15⟩ := zn8 ho
  have e1 : ∀ (f : zF1), (za M (o + 10) f).1 (o + 1) = M.1 (o + 1) := fun f => za_off _ (by omega)
  have c1 : (nI j1).toNatClampNeg = j1 := nI_clamp (by omega)
  have c2 : (nI j2).toNatClampNeg = j2 := nI_clamp (by omega)
  have hMi : trnM (M.1 (o + 1)) (M.1 (o + 10)) 4 ↔ feltF (M.1 (o + 1)) j1 0 (M.1 (o + 10) 5 + 1) < feltF (M.1 (o + 1)) j1 1 (M.1 (o + 10) 5 + 1) := by unfold trnM; rw [hA, c1]
  have eM : M = za M (o + 10) (M.1 (o + 10)) := (za_self _ _).symm
  refine zCi_of J zm_X8_turns [some (.ref (w.2.2 o)), some (.int 4), some (.int 0), none, none, none, none, none] (Nat.le_of_ble_eq_true rfl) rfl (fun g hg F X => ?_)
  subst hg
  rw [eM]
  refine z_aload_n F dX8_turns_0 rfl ?_
  refine zg_X8_two F (by with_reducible assumption) fl_X8_37 dX8_turns_1 (fun hk_1 => ?_)
  refine z_iload_n F dX8_turns_4 rfl ?_
  refine z_iconst (v := 1) F dX8_turns_5 (by decide) ?_
  refine z_iadd F dX8_turns_6 ?_
  refine z_dup2 F dX8_turns_7 rfl rfl ?_
  refine z_iald10n (q := 5) F (by with_reducible assumption) (by decide) (by rw [hz10]; omega) dX8_turns_8 ?_
  try simp +decide only [zs_zaa, za_at, va_g, if_true, if_false, hA, hB]
  refine z_iconst (v := 1) F dX8_turns_9 (by decide) ?_
  refine z_iadd F dX8_turns_10 ?_
  refine z_iast10n (q := 5) F (by with_reducible assumption) (by decide) (by rw [hz10]; omega) dX8_turns_11 ?_
  refine z_aload_n F dX8_turns_12 rfl ?_
  refine z_aload_n F dX8_turns_13 rfl ?_
  refine zg_X8_two F (by with_reducible assumption) fl_X8_37 dX8_turns_14 (fun hk_14 => ?_)
  refine z_iload_n F dX8_turns_17 rfl ?_
  refine z_iald10n (q := 4) F (by with_reducible assumption) (by decide) (by rw [hz10]; omega) dX8_turns_18 ?_
  try simp +decide only [zs_zaa, za_at, va_g, if_true, if_false, hA, hB]
  refine z_aload_n F dX8_turns_19 rfl ?_
  refine zg_X8_two F (by with_reducible assumption) fl_X8_37 dX8_turns_20 (fun hk_20 => ?_)
  refine z_iload_n F dX8_turns_23 rfl ?_
  refine z_iconst (v := 1) F dX8_turns_24 (by decide) ?_
  refine z_iadd F dX8_turns_25 ?_
  refine z_iald10n (q := 5) F (by with_reducible assumption) (by decide) (by rw [hz10]; omega) dX8_turns_26 ?_
  try simp +decide only [zs_zaa, za_at, va_g, if_true, if_false, hA, hB]
  refine z_iconst (v := 0) F dX8_turns_27 (by decide) ?_
  refine z_callVi F (c_X8_feels J (j := j1) hk ho h1 (by rw [e1]; exact kd)) zm_X8_feels zv_X8_feels ml_X8_99 (by with_reducible assumption) (by decide) rfl rfl rfl (Nat.le_of_ble_eq_true rfl) dX8_turns_28 (by omega) (fun r_28 M_28 h_28 => ?_)
  obtain ⟨e_28, f_28⟩ := h_28
  rw [e1] at f_28
  subst f_28
  replace e_28 := Eq.symm e_28
  subst e_28
  refine z_istore_n (lv' := [_, _, _, _, _, _, _, _]) F dX8_turns_31 (by decide) rfl rfl ?_
  refine z_aload_n F dX8_turns_32 rfl ?_
  refine z_aload_n F dX8_turns_33 rfl ?_
  refine zg_X8_two F (by with_reducible assumption) fl_X8_37 dX8_turns_34 (fun hk_34 => ?_)
  refine z_iload_n F dX8_turns_37 rfl ?_
  refine z_iald10n (q := 4) F (by with_reducible assumption) (by decide) (by rw [hz10]; omega) dX8_turns_38 ?_
  try simp +decide only [zs_zaa, za_at, va_g, if_true, if_false, hA, hB]
  refine z_aload_n F dX8_turns_39 rfl ?_
  refine zg_X8_two F (by with_reducible assumption) fl_X8_37 dX8_turns_40 (fun hk_40 => ?_)
  refine z_iload_n F dX8_turns_43 rfl ?_
  refine z_iconst (v := 1) F dX8_turns_44 (by decide) ?_
  refine z_iadd F dX8_turns_45 ?_
  refine z_iald10n (q := 5) F (by with_reducible assumption) (by decide) (by rw [hz10]; omega) dX8_turns_46 ?_
  try simp +decide only [zs_zaa, za_at, va_g, if_true, if_false, hA, hB]
  refine z_iconst (v := 1) F dX8_turns_47 (by decide) ?_
  refine z_callVi F (c_X8_feels J (j := j1) hk ho h1 (by rw [e1]; exact kd)) zm_X8_feels zv_X8_feels ml_X8_99 (by with_reducible assumption) (by decide) rfl rfl rfl (Nat.le_of_ble_eq_true rfl) dX8_turns_48 (by omega) (fun r_48 M_48 h_48 => ?_)
  obtain ⟨e_48, f_48⟩ := h_48
  rw [e1] at f_48
  subst f_48
  replace e_48 := Eq.symm e_48
  subst e_48
  refine z_istore (lv' := [_, _, _, _, _, _, _, _]) F dX8_turns_51 (by decide) rfl rfl ?_
  refine z_aload_n F dX8_turns_53 rfl ?_
  refine zg_X8_two F (by with_reducible assumption) fl_X8_37 dX8_turns_54 (fun hk_54 => ?_)
  refine z_iload_n F dX8_turns_57 rfl ?_
  refine z_iconst (v := 2) F dX8_turns_58 (by decide) ?_
  refine z_iadd F dX8_turns_59 ?_
  refine z_iload_n F dX8_turns_60 rfl ?_
  refine z_iload F dX8_turns_61 rfl ?_
  refine z_ic_lt (tgt := 70) F dX8_turns_63 (by decide) (fun h_63 => ?_) (fun h_63 => ?_)
  · refine z_iconst (v := 1) F dX8_turns_70 (by decide) ?_
    refine z_iast10n (q := 6) F (by with_reducible assumption) (by decide) (by rw [hz10]; omega) dX8_turns_71 ?_
    refine z_iload_n F dX8_turns_72 rfl ?_
    refine z_iload F dX8_turns_73 rfl ?_
    refine z_ic_lt (tgt := 82) F dX8_turns_75 (by decide) (fun h_75 => ?_) (fun h_75 => absurd h_75 (nle h_63))
    refine z_iload F dX8_turns_82 rfl ?_
    refine z_istore (lv' := [_, _, _, _, _, _, _, _]) F dX8_turns_84 (by decide) rfl rfl ?_
    refine z_iload F dX8_turns_86 rfl ?_
    refine z_aload_n F dX8_turns_88 rfl ?_
    refine z_aload_n F dX8_turns_89 rfl ?_
    refine zg_X8_two F (by with_reducible assumption) fl_X8_37 dX8_turns_90 (fun hk_90 => ?_)
    refine z_iload_n F dX8_turns_93 rfl ?_
    refine z_iald10n (q := 0) F (by with_reducible assumption) (by decide) (by rw [hz10]; omega) dX8_turns_94 ?_
    try simp +decide only [zs_zaa, za_at, va_g, if_true, if_false, hA, hB]
    refine z_iconst (v := 0) F dX8_turns_95 (by decide) ?_
    refine z_aload_n F dX8_turns_96 rfl ?_
    refine zg_X8_two F (by with_reducible assumption) fl_X8_37 dX8_turns_97 (fun hk_97 => ?_)
    refine z_iload_n F dX8_turns_100 rfl ?_
    refine z_iconst (v := 2) F dX8_turns_101 (by decide) ?_
    refine z_iadd F dX8_turns_102 ?_
    refine z_iald10n (q := 6) F (by with_reducible assumption) (by decide) (by rw [hz10]; omega) dX8_turns_103 ?_
    try simp +decide only [zs_zaa, za_at, va_g, if_true, if_false, hA, hB]
    refine z_callVi F (c_X8_feels J (j := j2) hk ho h2 (by rw [e1]; exact kd)) zm_X8_feels zv_X8_feels ml_X8_99 (by with_reducible assumption) (by decide) rfl rfl rfl (Nat.le_of_ble_eq_true rfl) dX8_turns_104 (by omega) (fun r_104 M_104 h_104 => ?_)
    obtain ⟨e_104, f_104⟩ := h_104
    rw [e1] at f_104
    subst f_104
    replace e_104 := Eq.symm e_104
    subst e_104
    refine z_ic_le (tgt := 146) F dX8_turns_107 (by decide) (fun h_107 => ?_) (fun h_107 => ?_)
    · refine z_iconst (v := 0) F dX8_turns_146 (by decide) ?_
      refine z_istore (lv' := [_, _, _, _, _, _, _, _]) F dX8_turns_147 (by decide) rfl rfl ?_
      refine z_iload F dX8_turns_149 rfl ?_
      refine z_if_eq (tgt := 200) F dX8_turns_151 (by decide) (fun h_151 => ?_) (fun h_151 => absurd h_151 (by decide))
      refine z_iload F dX8_turns_200 rfl ?_
      refine z_zret F X dX8_turns_202 (by decide) ?_
      try simp only [zs_zaa]
      have hm : trnM (M.1 (o + 1)) (M.1 (o + 10)) 4 := hMi.mpr h_63
      have em : trnm (M.1 (o + 1)) (M.1 (o + 10)) 4 = 1 := if_pos hm
      have hp : ¬ trnP (M.1 (o + 1)) (M.1 (o + 10)) 4 0 := fun z => by
        have z1 := z.1
        rw [em, if_pos hm, hB, c2, hA, c1] at z1
        exact nlt h_107 z1
      refine ⟨?_, bI_f hp⟩
      rw [trnF, if_neg hp, trn1, em]
    · refine z_aload_n F dX8_turns_110 rfl ?_
      refine z_aload_n F dX8_turns_111 rfl ?_
      refine zg_X8_two F (by with_reducible assumption) fl_X8_37 dX8_turns_112 (fun hk_112 => ?_)
      refine z_iload_n F dX8_turns_115 rfl ?_
      refine z_iald10n (q := 4) F (by with_reducible assumption) (by decide) (by rw [hz10]; omega) dX8_turns_116 ?_
      try simp +decide only [zs_zaa, za_at, va_g, if_true, if_false, hA, hB]
      refine z_callVi F (c_X8_worth J (nt := 10) hk ho (Or.inr ⟨j1, h1, rfl⟩) (by decide)) zm_X8_worth zv_X8_worth ml_X8_173 (by with_reducible assumption) (by decide) rfl rfl rfl (Nat.le_of_ble_eq_true rfl) dX8_turns_117 (by omega) (fun r_117 M_117 h_117 => ?_)
      obtain ⟨e_117, f_117⟩ := h_117
      rw [e1] at f_117
      subst f_117
      replace e_117 := Eq.symm e_117
      subst e_117
      refine z_aload_n F dX8_turns_120 rfl ?_
      refine z_aload_n F dX8_turns_121 rfl ?_
      refine zg_X8_two F (by with_reducible assumption) fl_X8_37 dX8_turns_122 (fun hk_122 => ?_)
      refine z_iload_n F dX8_turns_125 rfl ?_
      refine z_iald10n (q := 0) F (by with_reducible assumption) (by decide) (by rw [hz10]; omega) dX8_turns_126 ?_
      try simp +decide only [zs_zaa, za_at, va_g, if_true, if_false, hA, hB]
      refine z_callVi F (c_X8_worth J (nt := 10) hk ho (Or.inr ⟨j2, h2, rfl⟩) (by decide)) zm_X8_worth zv_X8_worth ml_X8_173 (by with_reducible assumption) (by decide) rfl rfl rfl (Nat.le_of_ble_eq_true rfl) dX8_turns_127 (by omega) (fun r_127 M_127 h_127 => ?_)
      obtain ⟨e_127, f_127⟩ := h_127
      rw [e1] at f_127
      subst f_127
      replace e_127 := Eq.symm e_127
      subst e_127
      refine z_isub F dX8_turns_130 ?_
      refine z_aload_n F dX8_turns_131 rfl ?_
      refine zg_X8_two F (by with_reducible assumption) fl_X8_37 dX8_turns_132 (fun hk_132 => ?_)
      refine z_iload_n F dX8_turns_135 rfl ?_
      refine z_iconst (v := 3) F dX8_turns_136 (by decide) ?_
      refine z_iadd F dX8_turns_137 ?_
      refine z_iald10n (q := 7) F (by with_reducible assumption) (by decide) (by rw [hz10]; omega) dX8_turns_138 ?_
      try simp +decide only [zs_zaa, za_at, va_g, if_true, if_false, hA, hB]
      refine z_ic_gt (tgt := 146) F dX8_turns_139 (by decide) (fun h_139 => ?_) (fun h_139 => ?_)
      · refine z_iconst (v := 0) F dX8_turns_146 (by decide) ?_
        refine z_istore (lv' := [_, _, _, _, _, _, _, _]) F dX8_turns_147 (by decide) rfl rfl ?_
        refine z_iload F dX8_turns_149 rfl ?_
        refine z_if_eq (tgt := 200) F dX8_turns_151 (by decide) (fun h_151 => ?_) (fun h_151 => absurd h_151 (by decide))
        refine z_iload F dX8_turns_200 rfl ?_
        refine z_zret F X dX8_turns_202 (by decide) ?_
        try simp only [zs_zaa]
        have hm : trnM (M.1 (o + 1)) (M.1 (o + 10)) 4 := hMi.mpr h_63
        have em : trnm (M.1 (o + 1)) (M.1 (o + 10)) 4 = 1 := if_pos hm
        have hp : ¬ trnP (M.1 (o + 1)) (M.1 (o + 10)) 4 0 := fun z => by
          have z1 := z.2
          rw [hA, hB] at z1
          exact nle h_139 z1
        refine ⟨?_, bI_f hp⟩
        rw [trnF, if_neg hp, trn1, em]
      · refine z_iconst (v := 1) F dX8_turns_142 (by decide) ?_
        refine z_goto (tgt := 147) F dX8_turns_143 (by decide) ?_
        refine z_istore (lv' := [_, _, _, _, _, _, _, _]) F dX8_turns_147 (by decide) rfl rfl ?_
        refine z_iload F dX8_turns_149 rfl ?_
        refine z_if_eq (tgt := 200) F dX8_turns_151 (by decide) (fun h_151 => absurd h_151 (by decide)) (fun h_151 => ?_)
        refine z_aload_n F dX8_turns_154 rfl ?_
        refine zg_X8_two F (by with_reducible assumption) fl_X8_37 dX8_turns_155 (fun hk_155 => ?_)
        refine z_iload_n F dX8_turns_158 rfl ?_
        refine z_iald10n (q := 4) F (by with_reducible assumption) (by decide) (by rw [hz10]; omega) dX8_turns_159 ?_
        try simp +decide only [zs_zaa, za_at, va_g, if_true, if_false, hA, hB]
        refine z_istore (lv' := [_, _, _, _, _, _, _, _]) F dX8_turns_160 (by decide) rfl rfl ?_
        refine z_aload_n F dX8_turns_162 rfl ?_
        refine zg_X8_two F (by with_reducible assumption) fl_X8_37 dX8_turns_163 (fun hk_163 => ?_)
        refine z_iload_n F dX8_turns_166 rfl ?_
        refine z_aload_n F dX8_turns_167 rfl ?_
        refine zg_X8_two F (by with_reducible assumption) fl_X8_37 dX8_turns_168 (fun hk_168 => ?_)
        refine z_iload_n F dX8_turns_171 rfl ?_
        refine z_iald10n (q := 0) F (by with_reducible assumption) (by decide) (by rw [hz10]; omega) dX8_turns_172 ?_
        try simp +decide only [zs_zaa, za_at, va_g, if_true, if_false, hA, hB]
        refine z_iast10n (q := 4) F (by with_reducible assumption) (by decide) (by rw [hz10]; omega) dX8_turns_173 ?_
        refine z_aload_n F dX8_turns_174 rfl ?_
        refine zg_X8_two F (by with_reducible assumption) fl_X8_37 dX8_turns_175 (fun hk_175 => ?_)
        refine z_iload_n F dX8_turns_178 rfl ?_
        refine z_iload F dX8_turns_179 rfl ?_
        refine z_iast10n (q := 0) F (by with_reducible assumption) (by decide) (by rw [hz10]; omega) dX8_turns_181 ?_
        refine z_aload_n F dX8_turns_182 rfl ?_
        refine zg_X8_two F (by with_reducible assumption) fl_X8_37 dX8_turns_183 (fun hk_183 => ?_)
        refine z_iload_n F dX8_turns_186 rfl ?_
        refine z_iconst (v := 1) F dX8_turns_187 (by decide) ?_
        refine z_iadd F dX8_turns_188 ?_
        refine z_iconst (v := 0) F dX8_turns_189 (by decide) ?_
        refine z_iast10n (q := 5) F (by with_reducible assumption) (by decide) (by rw [hz10]; omega) dX8_turns_190 ?_
        refine z_aload_n F dX8_turns_191 rfl ?_
        refine zg_X8_two F (by with_reducible assumption) fl_X8_37 dX8_turns_192 (fun hk_192 => ?_)
        refine z_iload_n F dX8_turns_195 rfl ?_
        refine z_iconst (v := 1) F dX8_turns_196 (by decide) ?_
        refine z_iadd F dX8_turns_197 ?_
        refine z_iconst (v := 0) F dX8_turns_198 (by decide) ?_
        refine z_iast10n (q := 1) F (by with_reducible assumption) (by decide) (by rw [hz10]; omega) dX8_turns_199 ?_
        refine z_iload F dX8_turns_200 rfl ?_
        refine z_zret F X dX8_turns_202 (by decide) ?_
        try simp only [zs_zaa]
        have hm : trnM (M.1 (o + 1)) (M.1 (o + 10)) 4 := hMi.mpr h_63
        have em : trnm (M.1 (o + 1)) (M.1 (o + 10)) 4 = 1 := if_pos hm
        have hp : trnP (M.1 (o + 1)) (M.1 (o + 10)) 4 0 := ⟨by rw [em, if_pos hm, hB, c2, hA, c1]; exact h_107, by rw [hA, hB]; exact h_139⟩
        refine ⟨?_, bI_t hp⟩
        rw [trnF, if_pos hp, trn1, em, hB, hA]
  · refine z_iconst (v := 0) F dX8_turns_66 (by decide) ?_
    refine z_goto (tgt := 71) F dX8_turns_67 (by decide) ?_
    refine z_iast10n (q := 6) F (by with_reducible assumption) (by decide) (by rw [hz10]; omega) dX8_turns_71 ?_
    refine z_iload_n F dX8_turns_72 rfl ?_
    refine z_iload F dX8_turns_73 rfl ?_
    refine z_ic_lt (tgt := 82) F dX8_turns_75 (by decide) (fun h_75 => absurd h_75 (nlt h_63)) (fun h_75 => ?_)
    refine z_iload_n F dX8_turns_78 rfl ?_
    refine z_goto (tgt := 84) F dX8_turns_79 (by decide) ?_
    refine z_istore (lv' := [_, _, _, _, _, _, _, _]) F dX8_turns_84 (by decide) rfl rfl ?_
    refine z_iload F dX8_turns_86 rfl ?_
    refine z_aload_n F dX8_turns_88 rfl ?_
    refine z_aload_n F dX8_turns_89 rfl ?_
    refine zg_X8_two F (by with_reducible assumption) fl_X8_37 dX8_turns_90 (fun hk_90 => ?_)
    refine z_iload_n F dX8_turns_93 rfl ?_
    refine z_iald10n (q := 0) F (by with_reducible assumption) (by decide) (by rw [hz10]; omega) dX8_turns_94 ?_
    try simp +decide only [zs_zaa, za_at, va_g, if_true, if_false, hA, hB]
    refine z_iconst (v := 0) F dX8_turns_95 (by decide) ?_
    refine z_aload_n F dX8_turns_96 rfl ?_
    refine zg_X8_two F (by with_reducible assumption) fl_X8_37 dX8_turns_97 (fun hk_97 => ?_)
    refine z_iload_n F dX8_turns_100 rfl ?_
    refine z_iconst (v := 2) F dX8_turns_101 (by decide) ?_
    refine z_iadd F dX8_turns_102 ?_
    refine z_iald10n (q := 6) F (by with_reducible assumption) (by decide) (by rw [hz10]; omega) dX8_turns_103 ?_
    try simp +decide only [zs_zaa, za_at, va_g, if_true, if_false, hA, hB]
    refine z_callVi F (c_X8_feels J (j := j2) hk ho h2 (by rw [e1]; exact kd)) zm_X8_feels zv_X8_feels ml_X8_99 (by with_reducible assumption) (by decide) rfl rfl rfl (Nat.le_of_ble_eq_true rfl) dX8_turns_104 (by omega) (fun r_104 M_104 h_104 => ?_)
    obtain ⟨e_104, f_104⟩ := h_104
    rw [e1] at f_104
    subst f_104
    replace e_104 := Eq.symm e_104
    subst e_104
    refine z_ic_le (tgt := 146) F dX8_turns_107 (by decide) (fun h_107 => ?_) (fun h_107 => ?_)
    · refine z_iconst (v := 0) F dX8_turns_146 (by decide) ?_
      refine z_istore (lv' := [_, _, _, _, _, _, _, _]) F dX8_turns_147 (by decide) rfl rfl ?_
      refine z_iload F dX8_turns_149 rfl ?_
      refine z_if_eq (tgt := 200) F dX8_turns_151 (by decide) (fun h_151 => ?_) (fun h_151 => absurd h_151 (by decide))
      refine z_iload F dX8_turns_200 rfl ?_
      refine z_zret F X dX8_turns_202 (by decide) ?_
      try simp only [zs_zaa]
      have hm : ¬ trnM (M.1 (o + 1)) (M.1 (o + 10)) 4 := fun z => nlt h_63 (hMi.mp z)
      have em : trnm (M.1 (o + 1)) (M.1 (o + 10)) 4 = 0 := if_neg hm
      have hp : ¬ trnP (M.1 (o + 1)) (M.1 (o + 10)) 4 0 := fun z => by
        have z1 := z.1
        rw [em, if_neg hm, hB, c2, hA, c1] at z1
        exact nlt h_107 z1
      refine ⟨?_, bI_f hp⟩
      rw [trnF, if_neg hp, trn1, em]
    · refine z_aload_n F dX8_turns_110 rfl ?_
      refine z_aload_n F dX8_turns_111 rfl ?_
      refine zg_X8_two F (by with_reducible assumption) fl_X8_37 dX8_turns_112 (fun hk_112 => ?_)
      refine z_iload_n F dX8_turns_115 rfl ?_
      refine z_iald10n (q := 4) F (by with_reducible assumption) (by decide) (by rw [hz10]; omega) dX8_turns_116 ?_
      try simp +decide only [zs_zaa, za_at, va_g, if_true, if_false, hA, hB]
      refine z_callVi F (c_X8_worth J (nt := 10) hk ho (Or.inr ⟨j1, h1, rfl⟩) (by decide)) zm_X8_worth zv_X8_worth ml_X8_173 (by with_reducible assumption) (by decide) rfl rfl rfl (Nat.le_of_ble_eq_true rfl) dX8_turns_117 (by omega) (fun r_117 M_117 h_117 => ?_)
      obtain ⟨e_117, f_117⟩ := h_117
      rw [e1] at f_117
      subst f_117
      replace e_117 := Eq.symm e_117
      subst e_117
      refine z_aload_n F dX8_turns_120 rfl ?_
      refine z_aload_n F dX8_turns_121 rfl ?_
      refine zg_X8_two F (by with_reducible assumption) fl_X8_37 dX8_turns_122 (fun hk_122 => ?_)
      refine z_iload_n F dX8_turns_125 rfl ?_
      refine z_iald10n (q := 0) F (by with_reducible assumption) (by decide) (by rw [hz10]; omega) dX8_turns_126 ?_
      try simp +decide only [zs_zaa, za_at, va_g, if_true, if_false, hA, hB]
      refine z_callVi F (c_X8_worth J (nt := 10) hk ho (Or.inr ⟨j2, h2, rfl⟩) (by decide)) zm_X8_worth zv_X8_worth ml_X8_173 (by with_reducible assumption) (by decide) rfl rfl rfl (Nat.le_of_ble_eq_true rfl) dX8_turns_127 (by omega) (fun r_127 M_127 h_127 => ?_)
      obtain ⟨e_127, f_127⟩ := h_127
      rw [e1] at f_127
      subst f_127
      replace e_127 := Eq.symm e_127
      subst e_127
      refine z_isub F dX8_turns_130 ?_
      refine z_aload_n F dX8_turns_131 rfl ?_
      refine zg_X8_two F (by with_reducible assumption) fl_X8_37 dX8_turns_132 (fun hk_132 => ?_)
      refine z_iload_n F dX8_turns_135 rfl ?_
      refine z_iconst (v := 3) F dX8_turns_136 (by decide) ?_
      refine z_iadd F dX8_turns_137 ?_
      refine z_iald10n (q := 7) F (by with_reducible assumption) (by decide) (by rw [hz10]; omega) dX8_turns_138 ?_
      try simp +decide only [zs_zaa, za_at, va_g, if_true, if_false, hA, hB]
      refine z_ic_gt (tgt := 146) F dX8_turns_139 (by decide) (fun h_139 => ?_) (fun h_139 => ?_)
      · refine z_iconst (v := 0) F dX8_turns_146 (by decide) ?_
        refine z_istore (lv' := [_, _, _, _, _, _, _, _]) F dX8_turns_147 (by decide) rfl rfl ?_
        refine z_iload F dX8_turns_149 rfl ?_
        refine z_if_eq (tgt := 200) F dX8_turns_151 (by decide) (fun h_151 => ?_) (fun h_151 => absurd h_151 (by decide))
        refine z_iload F dX8_turns_200 rfl ?_
        refine z_zret F X dX8_turns_202 (by decide) ?_
        try simp only [zs_zaa]
        have hm : ¬ trnM (M.1 (o + 1)) (M.1 (o + 10)) 4 := fun z => nlt h_63 (hMi.mp z)
        have em : trnm (M.1 (o + 1)) (M.1 (o + 10)) 4 = 0 := if_neg hm
        have hp : ¬ trnP (M.1 (o + 1)) (M.1 (o + 10)) 4 0 := fun z => by
          have z1 := z.2
          rw [hA, hB] at z1
          exact nle h_139 z1
        refine ⟨?_, bI_f hp⟩
        rw [trnF, if_neg hp, trn1, em]
      · refine z_iconst (v := 1) F dX8_turns_142 (by decide) ?_
        refine z_goto (tgt := 147) F dX8_turns_143 (by decide) ?_
        refine z_istore (lv' := [_, _, _, _, _, _, _, _]) F dX8_turns_147 (by decide) rfl rfl ?_
        refine z_iload F dX8_turns_149 rfl ?_
        refine z_if_eq (tgt := 200) F dX8_turns_151 (by decide) (fun h_151 => absurd h_151 (by decide)) (fun h_151 => ?_)
        refine z_aload_n F dX8_turns_154 rfl ?_
        refine zg_X8_two F (by with_reducible assumption) fl_X8_37 dX8_turns_155 (fun hk_155 => ?_)
        refine z_iload_n F dX8_turns_158 rfl ?_
        refine z_iald10n (q := 4) F (by with_reducible assumption) (by decide) (by rw [hz10]; omega) dX8_turns_159 ?_
        try simp +decide only [zs_zaa, za_at, va_g, if_true, if_false, hA, hB]
        refine z_istore (lv' := [_, _, _, _, _, _, _, _]) F dX8_turns_160 (by decide) rfl rfl ?_
        refine z_aload_n F dX8_turns_162 rfl ?_
        refine zg_X8_two F (by with_reducible assumption) fl_X8_37 dX8_turns_163 (fun hk_163 => ?_)
        refine z_iload_n F dX8_turns_166 rfl ?_
        refine z_aload_n F dX8_turns_167 rfl ?_
        refine zg_X8_two F (by with_reducible assumption) fl_X8_37 dX8_turns_168 (fun hk_168 => ?_)
        refine z_iload_n F dX8_turns_171 rfl ?_
        refine z_iald10n (q := 0) F (by with_reducible assumption) (by decide) (by rw [hz10]; omega) dX8_turns_172 ?_
        try simp +decide only [zs_zaa, za_at, va_g, if_true, if_false, hA, hB]
        refine z_iast10n (q := 4) F (by with_reducible assumption) (by decide) (by rw [hz10]; omega) dX8_turns_173 ?_
        refine z_aload_n F dX8_turns_174 rfl ?_
        refine zg_X8_two F (by with_reducible assumption) fl_X8_37 dX8_turns_175 (fun hk_175 => ?_)
        refine z_iload_n F dX8_turns_178 rfl ?_
        refine z_iload F dX8_turns_179 rfl ?_
        refine z_iast10n (q := 0) F (by with_reducible assumption) (by decide) (by rw [hz10]; omega) dX8_turns_181 ?_
        refine z_aload_n F dX8_turns_182 rfl ?_
        refine zg_X8_two F (by with_reducible assumption) fl_X8_37 dX8_turns_183 (fun hk_183 => ?_)
        refine z_iload_n F dX8_turns_186 rfl ?_
        refine z_iconst (v := 1) F dX8_turns_187 (by decide) ?_
        refine z_iadd F dX8_turns_188 ?_
        refine z_iconst (v := 0) F dX8_turns_189 (by decide) ?_
        refine z_iast10n (q := 5) F (by with_reducible assumption) (by decide) (by rw [hz10]; omega) dX8_turns_190 ?_
        refine z_aload_n F dX8_turns_191 rfl ?_
        refine zg_X8_two F (by with_reducible assumption) fl_X8_37 dX8_turns_192 (fun hk_192 => ?_)
        refine z_iload_n F dX8_turns_195 rfl ?_
        refine z_iconst (v := 1) F dX8_turns_196 (by decide) ?_
        refine z_iadd F dX8_turns_197 ?_
        refine z_iconst (v := 0) F dX8_turns_198 (by decide) ?_
        refine z_iast10n (q := 1) F (by with_reducible assumption) (by decide) (by rw [hz10]; omega) dX8_turns_199 ?_
        refine z_iload F dX8_turns_200 rfl ?_
        refine z_zret F X dX8_turns_202 (by decide) ?_
        try simp only [zs_zaa]
        have hm : ¬ trnM (M.1 (o + 1)) (M.1 (o + 10)) 4 := fun z => nlt h_63 (hMi.mp z)
        have em : trnm (M.1 (o + 1)) (M.1 (o + 10)) 4 = 0 := if_neg hm
        have hp : trnP (M.1 (o + 1)) (M.1 (o + 10)) 4 0 := ⟨by rw [em, if_neg hm, hB, c2, hA, c1]; exact h_107, by rw [hA, hB]; exact h_139⟩
        refine ⟨?_, bI_t hp⟩
        rw [trnF, if_pos hp, trn1, em, hB, hA]
