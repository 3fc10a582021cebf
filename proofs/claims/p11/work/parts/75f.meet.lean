/-! two who meet -/
def mtN (P : Prop) [Decidable P] (k : Int32) : Int32 := if P then 0 else k + 1
def mtL (th : zF1) : Nat → Nat → zF1 → Int32 → Nat × zF1 × Int32
  | 0, n, T, k => (n, T, k)
  | r + 1, n, T, k => if k < 2 then (if n % 2 = 0 then mtL th r (n + 1) (trnF th T 0 4) (mtN (trnP th T 0 4) k) else mtL th r (n + 1) (trnF th T 4 0) (mtN (trnP th T 4 0) k)) else (n, T, k)
abbrev mtOK (T : zF1) : Prop := ∃ j1 j2, j1 < 10 ∧ j2 < 10 ∧ T 0 = nI j1 ∧ T 4 = nI j2
theorem trn_A {th T : zF1} (h : mtOK T) : mtOK (trnF th T 0 4) := by
  obtain ⟨j1, j2, h1, h2, e1, e2⟩ := h
  unfold trnF
  split
  · exact ⟨j2, j1, h2, h1, e2, e1⟩
  · exact ⟨j1, j2, h1, h2, e1, e2⟩
theorem trn_B {th T : zF1} (h : mtOK T) : mtOK (trnF th T 4 0) := by
  obtain ⟨j1, j2, h1, h2, e1, e2⟩ := h
  unfold trnF
  split
  · exact ⟨j2, j1, h2, h1, e2, e1⟩
  · exact ⟨j1, j2, h1, h2, e1, e2⟩
theorem rem2 : ∀ n, n < 200 → nI n - nI n / 2 * 2 = nI (n % 2) := by decide +kernel
def mtT (T : zF1) (a b c h x : Int32) : zF1 := va_up (va_up (va_up (va_up (va_up (va_up (va_up (va_up T 0 a) 1 b) 2 c) 3 h) 4 x) 5 0) 6 0) 7 99
theorem c_X8_meet {l : Launch} {w : zE} (J : zJ w) {M : zM} {o nt np a : Nat} {x k : Int32} (hk : zk o = 8) (ho : o = 138) (ok : rOK M o nt np a) : zCi l w yX8_meet cX8_meet 6 (some .int) 2 [.ref (w.2.2 o), .int x, .int k] M (fun r M2 => (¬ ((0 ≤ x ∧ x < M.1 o 0) ∧ ¬ (k < 0 ∨ 2 < k)) ∧ r = -1 ∧ M2 = M) ∨ (((0 ≤ x ∧ x < M.1 o 0) ∧ ¬ (k < 0 ∨ 2 < k)) ∧ (((¬ whoR (M.1 (o + 3)) x np = -4 ∨ M.1 (o + 3) 0 = -4) ∧ r = -2 ∧ M2 = M) ∨ (¬ (¬ whoR (M.1 (o + 3)) x np = -4 ∨ M.1 (o + 3) 0 = -4) ∧ ∃ R, R = mtL (M.1 (o + 1)) 200 0 (mtT (M.1 (o + 10)) (M.1 (o + 3) 0) (M.1 (o + 3) 1) (M.1 (o + 3) 2) (M.1 o 5) x) 0 ∧ M2 = za M (o + 10) R.2.1 ∧ r = if R.2.2 < 2 then -4 else if k = 0 then nI R.1 else if k = 1 then R.2.1 0 else R.2.1 4)))) := by
  obtain ⟨hz1, hz2, hz3, hz4, hz5, hz6, hz7, hz8, hz9, hz10, hz11, hz12, hz13, hz14, hz15⟩ := zn8 ho
  obtain ⟨hnt, h10, hnp, h8, kd, tv, ha, h12, hts⟩ := id ok
  have e1 : ∀ (f : zF1), (za M (o + 10) f).1 (o + 1) = M.1 (o + 1) := fun f => za_off _ (by omega)
  have e3 : ∀ (f : zF1), (za M (o + 10) f).1 (o + 3) = M.1 (o + 3) := fun f => za_off _ (by omega)
  have e0 : ∀ (f : zF1), (za M (o + 10) f).1 o = M.1 o := fun f => za_off _ (by omega)
  refine zCi_of J zm_X8_meet [some (.ref (w.2.2 o)), some (.int x), some (.int k), none, none, none] (Nat.le_of_ble_eq_true rfl) rfl (fun g hg F X => ?_)
  subst hg
  have key : ∀ (R : Nat × zF1 × Int32), (∀ lv5, ZW w g 6 185 [some (.ref (w.2.2 o)), some (.int x), some (.int k), some (.int R.2.2), some (.int (nI R.1)), lv5] [] (za M (o + 10) R.2.1)) → ∀ (r n : Nat) (T : zF1) (q : Int32) (lv5 : Option Value), n + r = 200 → mtOK T → mtL (M.1 (o + 1)) r n T q = R → ZW w g 6 129 [some (.ref (w.2.2 o)), some (.int x), some (.int k), some (.int q), some (.int (nI n)), lv5] [] (za M (o + 10) T) := by
    intro R K r
    induction r with
    | zero =>
      intro n T q lv5 hn hT hR
      obtain rfl : n = 200 := by omega
      refine z_iload F dX8_meet_129 rfl ?_
      refine z_sipush (v := 200) F dX8_meet_131 (by decide) ?_
      refine z_ic_ge (tgt := 185) F dX8_meet_134 (by decide) (fun h_134 => ?_) (fun h_134 => absurd h_134 (by decide))
      subst hR
      exact K _
    | succ r ih =>
      intro n T q lv5 hn hT hR
      obtain ⟨j1, j2, h1, h2, t1, t2⟩ := id hT
      refine z_iload F dX8_meet_129 rfl ?_
      refine z_sipush (v := 200) F dX8_meet_131 (by decide) ?_
      refine z_ic_ge (tgt := 185) F dX8_meet_134 (by decide) (fun h_134 => absurd h_134 (nI_ge (b := 200) (by omega) (by decide))) (fun h_134 => ?_)
      refine z_iload_n F dX8_meet_137 rfl ?_
      refine z_iconst (v := 2) F dX8_meet_138 (by decide) ?_
      refine z_ic_ge (tgt := 185) F dX8_meet_139 (by decide) (fun h_139 => ?_) (fun h_139 => ?_)
      · rw [mtL, if_neg (nlt h_139)] at hR
        subst hR
        exact K _
      · refine z_iload F dX8_meet_142 rfl ?_
        refine z_iconst (v := 2) F dX8_meet_144 (by decide) ?_
        refine z_irem F dX8_meet_145 (by decide) ?_
        rw [rem2 n (by omega)]
        refine z_if_ne (tgt := 158) F dX8_meet_146 (by decide) (fun h_146 => ?_) (fun h_146 => ?_)
        · refine z_aload_n F dX8_meet_158 rfl ?_
          refine z_iconst (v := 4) F dX8_meet_159 (by decide) ?_
          refine z_iconst (v := 0) F dX8_meet_160 (by decide) ?_
          refine z_callVi F (c_X8_turnsB J hk ho (by rw [e1]; exact kd) h2 h1 (by rw [za_at]; exact t2) (by rw [za_at]; exact t1)) zm_X8_turns zv_X8_turns ml_X8_207 (by with_reducible assumption) (by decide) rfl rfl rfl (Nat.le_of_ble_eq_true rfl) dX8_meet_161 (by omega) (fun r_161 M_161 h_161 => ?_)
          obtain ⟨e_161, f_161⟩ := h_161
          simp only [e1, za_at, za_za] at e_161 f_161
          subst f_161
          subst e_161
          refine z_istore (lv' := [_, _, _, _, _, _]) F dX8_meet_164 (by decide) rfl rfl ?_
          refine z_iload F dX8_meet_166 rfl ?_
          refine z_if_eq (tgt := 175) F dX8_meet_168 (by decide) (fun h_168 => ?_) (fun h_168 => ?_)
          · replace h_168 := bI_0.mp h_168
            refine z_iload_n F dX8_meet_175 rfl ?_
            refine z_iconst (v := 1) F dX8_meet_176 (by decide) ?_
            refine z_iadd F dX8_meet_177 ?_
            refine z_istore_n (lv' := [_, _, _, _, _, _]) F dX8_meet_178 (by decide) rfl rfl ?_
            refine z_iincc (c := 1) (lv' := [_, _, _, _, _, _]) F dX8_meet_179 rfl (by decide) (by decide) rfl rfl ?_
            refine z_goto (tgt := 129) F dX8_meet_182 (by decide) ?_
            rw [mtL, if_pos h_139, if_neg (fun z => h_146 (by rw [z]; rfl)), mtN, if_neg h_168] at hR
            rw [nI_1]
            exact ih (n + 1) _ _ _ (by omega) (trn_B hT) hR
          · replace h_168 := bI_1.mp h_168
            refine z_iconst (v := 0) F dX8_meet_171 (by decide) ?_
            refine z_goto (tgt := 178) F dX8_meet_172 (by decide) ?_
            refine z_istore_n (lv' := [_, _, _, _, _, _]) F dX8_meet_178 (by decide) rfl rfl ?_
            refine z_iincc (c := 1) (lv' := [_, _, _, _, _, _]) F dX8_meet_179 rfl (by decide) (by decide) rfl rfl ?_
            refine z_goto (tgt := 129) F dX8_meet_182 (by decide) ?_
            rw [mtL, if_pos h_139, if_neg (fun z => h_146 (by rw [z]; rfl)), mtN, if_pos h_168] at hR
            rw [nI_1]
            exact ih (n + 1) _ _ _ (by omega) (trn_B hT) hR
        · refine z_aload_n F dX8_meet_149 rfl ?_
          refine z_iconst (v := 0) F dX8_meet_150 (by decide) ?_
          refine z_iconst (v := 4) F dX8_meet_151 (by decide) ?_
          refine z_callVi F (c_X8_turnsA J hk ho (by rw [e1]; exact kd) h1 h2 (by rw [za_at]; exact t1) (by rw [za_at]; exact t2)) zm_X8_turns zv_X8_turns ml_X8_207 (by with_reducible assumption) (by decide) rfl rfl rfl (Nat.le_of_ble_eq_true rfl) dX8_meet_152 (by omega) (fun r_152 M_152 h_152 => ?_)
          obtain ⟨e_152, f_152⟩ := h_152
          simp only [e1, za_at, za_za] at e_152 f_152
          subst f_152
          subst e_152
          refine z_goto (tgt := 164) F dX8_meet_155 (by decide) ?_
          refine z_istore (lv' := [_, _, _, _, _, _]) F dX8_meet_164 (by decide) rfl rfl ?_
          refine z_iload F dX8_meet_166 rfl ?_
          refine z_if_eq (tgt := 175) F dX8_meet_168 (by decide) (fun h_168 => ?_) (fun h_168 => ?_)
          · replace h_168 := bI_0.mp h_168
            refine z_iload_n F dX8_meet_175 rfl ?_
            refine z_iconst (v := 1) F dX8_meet_176 (by decide) ?_
            refine z_iadd F dX8_meet_177 ?_
            refine z_istore_n (lv' := [_, _, _, _, _, _]) F dX8_meet_178 (by decide) rfl rfl ?_
            refine z_iincc (c := 1) (lv' := [_, _, _, _, _, _]) F dX8_meet_179 rfl (by decide) (by decide) rfl rfl ?_
            refine z_goto (tgt := 129) F dX8_meet_182 (by decide) ?_
            rw [mtL, if_pos h_139, if_pos (show n % 2 = 0 from (nI_eq (by omega) (by decide)).mp h_146), mtN, if_neg h_168] at hR
            rw [nI_1]
            exact ih (n + 1) _ _ _ (by omega) (trn_A hT) hR
          · replace h_168 := bI_1.mp h_168
            refine z_iconst (v := 0) F dX8_meet_171 (by decide) ?_
            refine z_goto (tgt := 178) F dX8_meet_172 (by decide) ?_
            refine z_istore_n (lv' := [_, _, _, _, _, _]) F dX8_meet_178 (by decide) rfl rfl ?_
            refine z_iincc (c := 1) (lv' := [_, _, _, _, _, _]) F dX8_meet_179 rfl (by decide) (by decide) rfl rfl ?_
            refine z_goto (tgt := 129) F dX8_meet_182 (by decide) ?_
            rw [mtL, if_pos h_139, if_pos (show n % 2 = 0 from (nI_eq (by omega) (by decide)).mp h_146), mtN, if_pos h_168] at hR
            rw [nI_1]
            exact ih (n + 1) _ _ _ (by omega) (trn_A hT) hR
  have fin : ∀ (R : Nat × zF1 × Int32) (lv5 : Option Value), R = mtL (M.1 (o + 1)) 200 0 (mtT (M.1 (o + 10)) (M.1 (o + 3) 0) (M.1 (o + 3) 1) (M.1 (o + 3) 2) (M.1 o 5) x) 0 → ((0 ≤ x ∧ x < M.1 o 0) ∧ ¬ (k < 0 ∨ 2 < k)) → ¬ (¬ whoR (M.1 (o + 3)) x np = -4 ∨ M.1 (o + 3) 0 = -4) → ZW w g 6 185 [some (.ref (w.2.2 o)), some (.int x), some (.int k), some (.int R.2.2), some (.int (nI R.1)), lv5] [] (za M (o + 10) R.2.1) := by
    intro R lv5 hR hb hc
    refine z_iload_n F dX8_meet_185 rfl ?_
    refine z_iconst (v := 2) F dX8_meet_186 (by decide) ?_
    refine z_ic_ge (tgt := 195) F dX8_meet_187 (by decide) (fun h_187 => ?_) (fun h_187 => ?_)
    · try simp only [za_at] at h_187
      refine z_iload_n F dX8_meet_195 rfl ?_
      refine z_if_ne (tgt := 204) F dX8_meet_196 (by decide) (fun h_196 => ?_) (fun h_196 => ?_)
      · try simp only [za_at] at h_196
        refine z_iload_n F dX8_meet_204 rfl ?_
        refine z_iconst (v := 1) F dX8_meet_205 (by decide) ?_
        refine z_ic_ne (tgt := 218) F dX8_meet_206 (by decide) (fun h_206 => ?_) (fun h_206 => ?_)
        · try simp only [za_at] at h_206
          refine z_aload_n F dX8_meet_218 rfl ?_
          refine zg_X8_two F (by with_reducible assumption) fl_X8_37 dX8_meet_219 (fun hk_219 => ?_)
          refine z_iconst (v := 4) F dX8_meet_222 (by decide) ?_
          refine z_iald10n (q := 4) F (by with_reducible assumption) (by decide) (by rw [hz10]; omega) dX8_meet_223 ?_
          try simp only [za_at]
          refine z_iret F X dX8_meet_224 ?_
          refine Or.inr ⟨hb, Or.inr ⟨hc, R, hR, rfl, ?_⟩⟩
          rw [if_neg (nlt h_187), if_neg h_196, if_neg h_206]
        · try simp only [za_at] at h_206
          refine z_aload_n F dX8_meet_209 rfl ?_
          refine zg_X8_two F (by with_reducible assumption) fl_X8_37 dX8_meet_210 (fun hk_210 => ?_)
          refine z_iconst (v := 0) F dX8_meet_213 (by decide) ?_
          refine z_iald10n (q := 0) F (by with_reducible assumption) (by decide) (by rw [hz10]; omega) dX8_meet_214 ?_
          try simp only [za_at]
          refine z_goto (tgt := 224) F dX8_meet_215 (by decide) ?_
          refine z_iret F X dX8_meet_224 ?_
          refine Or.inr ⟨hb, Or.inr ⟨hc, R, hR, rfl, ?_⟩⟩
          rw [if_neg (nlt h_187), if_neg h_196, if_pos h_206]
      · try simp only [za_at] at h_196
        refine z_iload F dX8_meet_199 rfl ?_
        refine z_goto (tgt := 224) F dX8_meet_201 (by decide) ?_
        refine z_iret F X dX8_meet_224 ?_
        refine Or.inr ⟨hb, Or.inr ⟨hc, R, hR, rfl, ?_⟩⟩
        rw [if_neg (nlt h_187), if_pos h_196]
    · try simp only [za_at] at h_187
      refine z_bipush (v := (-4)) F dX8_meet_190 (by decide) ?_
      refine z_goto (tgt := 224) F dX8_meet_192 (by decide) ?_
      refine z_iret F X dX8_meet_224 ?_
      refine Or.inr ⟨hb, Or.inr ⟨hc, R, hR, rfl, ?_⟩⟩
      rw [if_pos h_187]
  refine z_aload_n F dX8_meet_0 rfl ?_
  refine z_iload_n F dX8_meet_1 rfl ?_
  refine z_i2l F dX8_meet_2 ?_
  refine z_callVi F (d_X8_isThing J hk hnt h10) zm_X8_isThing zv_X8_isThing ml_X8_89 (by with_reducible assumption) (by decide) rfl rfl rfl (Nat.le_of_ble_eq_true rfl) dX8_meet_3 (by omega) (fun r_3 M_3 h_3 => ?_)
  obtain ⟨e_3, rfl⟩ := h_3
  replace e_3 := Eq.symm e_3
  subst e_3
  refine z_if_eq (tgt := 21) F dX8_meet_6 (by decide) (fun h_6 => ?_) (fun h_6 => ?_)
  · replace h_6 := bI_0.mp h_6
    try simp only [zs_zaa, e0, e3] at h_6
    refine z_iconst (v := (-1)) F dX8_meet_21 (by decide) ?_
    refine z_iret F X dX8_meet_22 ?_
    exact Or.inl ⟨fun z => h_6 z.1, rfl, rfl⟩
  · replace h_6 := bI_1.mp h_6
    try simp only [zs_zaa, e0, e3] at h_6
    refine z_iload_n F dX8_meet_9 rfl ?_
    refine z_i2l F dX8_meet_10 ?_
    refine z_lconst (v := 0) F dX8_meet_11 (by decide) ?_
    refine z_ldc2 F dX8_meet_12 cl_X8_115 ?_
    refine z_callSi F (d_X8_in J (a := 0) (b := 2) (by decide) (by decide)) zm_X8_in zst_X8_in ml_X8_72 rfl rfl (Nat.le_of_ble_eq_true rfl) dX8_meet_15 (by omega) (fun r_15 M_15 h_15 => ?_)
    obtain ⟨e_15, rfl⟩ := h_15
    replace e_15 := Eq.symm e_15
    subst e_15
    refine z_if_ne (tgt := 23) F dX8_meet_18 (by decide) (fun h_18 => ?_) (fun h_18 => ?_)
    · replace h_18 := bI_1.mp h_18
      try simp only [zs_zaa, e0, e3] at h_18
      refine z_aload_n F dX8_meet_23 rfl ?_
      refine z_iload_n F dX8_meet_24 rfl ?_
      refine z_callVi F (c_X8_who J hk ho hnp h8) zm_X8_who zv_X8_who ml_X8_95 (by with_reducible assumption) (by decide) rfl rfl rfl (Nat.le_of_ble_eq_true rfl) dX8_meet_25 (by omega) (fun r_25 M_25 h_25 => ?_)
      obtain ⟨e_25, rfl⟩ := h_25
      replace e_25 := Eq.symm e_25
      subst e_25
      refine z_bipush (v := (-4)) F dX8_meet_28 (by decide) ?_
      refine z_ic_ne (tgt := 44) F dX8_meet_30 (by decide) (fun h_30 => ?_) (fun h_30 => ?_)
      · try simp only [zs_zaa, e0, e3] at h_30
        refine z_bipush (v := (-2)) F dX8_meet_44 (by decide) ?_
        refine z_iret F X dX8_meet_46 ?_
        exact Or.inr ⟨⟨h_6, by grind⟩, Or.inl ⟨Or.inl h_30, rfl, rfl⟩⟩
      · try simp only [zs_zaa, e0, e3] at h_30
        refine z_aload_n F dX8_meet_33 rfl ?_
        refine zg_X8_now F (by with_reducible assumption) fl_X8_16 dX8_meet_34 (fun hk_34 => ?_)
        refine z_iconst (v := 0) F dX8_meet_37 (by decide) ?_
        refine z_iald10n (q := 0) F (by with_reducible assumption) (by decide) (by rw [hz3]; omega) dX8_meet_38 ?_
        try simp only [zs_zaa, e0, e3]
        refine z_bipush (v := (-4)) F dX8_meet_39 (by decide) ?_
        refine z_ic_ne (tgt := 47) F dX8_meet_41 (by decide) (fun h_41 => ?_) (fun h_41 => ?_)
        · try simp only [zs_zaa, e0, e3] at h_41
          rw [show M = za M (o + 10) (M.1 (o + 10)) from (za_self _ _).symm]
          refine z_aload_n F dX8_meet_47 rfl ?_
          refine zg_X8_two F (by with_reducible assumption) fl_X8_37 dX8_meet_48 (fun hk_48 => ?_)
          refine z_iconst (v := 0) F dX8_meet_51 (by decide) ?_
          refine z_aload_n F dX8_meet_52 rfl ?_
          refine zg_X8_now F (by with_reducible assumption) fl_X8_16 dX8_meet_53 (fun hk_53 => ?_)
          refine z_iconst (v := 0) F dX8_meet_56 (by decide) ?_
          refine z_iald10n (q := 0) F (by with_reducible assumption) (by decide) (by rw [hz3]; omega) dX8_meet_57 ?_
          try simp only [zs_zaa, e0, e3]
          refine z_iast10n (q := 0) F (by with_reducible assumption) (by decide) (by rw [hz10]; omega) dX8_meet_58 ?_
          refine z_aload_n F dX8_meet_59 rfl ?_
          refine zg_X8_two F (by with_reducible assumption) fl_X8_37 dX8_meet_60 (fun hk_60 => ?_)
          refine z_iconst (v := 1) F dX8_meet_63 (by decide) ?_
          refine z_aload_n F dX8_meet_64 rfl ?_
          refine zg_X8_now F (by with_reducible assumption) fl_X8_16 dX8_meet_65 (fun hk_65 => ?_)
          refine z_iconst (v := 1) F dX8_meet_68 (by decide) ?_
          refine z_iald10n (q := 1) F (by with_reducible assumption) (by decide) (by rw [hz3]; omega) dX8_meet_69 ?_
          try simp only [zs_zaa, e0, e3]
          refine z_iast10n (q := 1) F (by with_reducible assumption) (by decide) (by rw [hz10]; omega) dX8_meet_70 ?_
          refine z_aload_n F dX8_meet_71 rfl ?_
          refine zg_X8_two F (by with_reducible assumption) fl_X8_37 dX8_meet_72 (fun hk_72 => ?_)
          refine z_iconst (v := 2) F dX8_meet_75 (by decide) ?_
          refine z_aload_n F dX8_meet_76 rfl ?_
          refine zg_X8_now F (by with_reducible assumption) fl_X8_16 dX8_meet_77 (fun hk_77 => ?_)
          refine z_iconst (v := 2) F dX8_meet_80 (by decide) ?_
          refine z_iald10n (q := 2) F (by with_reducible assumption) (by decide) (by rw [hz3]; omega) dX8_meet_81 ?_
          try simp only [zs_zaa, e0, e3]
          refine z_iast10n (q := 2) F (by with_reducible assumption) (by decide) (by rw [hz10]; omega) dX8_meet_82 ?_
          refine z_aload_n F dX8_meet_83 rfl ?_
          refine zg_X8_two F (by with_reducible assumption) fl_X8_37 dX8_meet_84 (fun hk_84 => ?_)
          refine z_iconst (v := 3) F dX8_meet_87 (by decide) ?_
          refine z_aload_n F dX8_meet_88 rfl ?_
          refine zg_X8_heed F (by with_reducible assumption) fl_X8_60 dX8_meet_89 ?_
          try simp only [zs_zaa, e0, e3]
          refine z_iast10n (q := 3) F (by with_reducible assumption) (by decide) (by rw [hz10]; omega) dX8_meet_92 ?_
          refine z_aload_n F dX8_meet_93 rfl ?_
          refine zg_X8_two F (by with_reducible assumption) fl_X8_37 dX8_meet_94 (fun hk_94 => ?_)
          refine z_iconst (v := 4) F dX8_meet_97 (by decide) ?_
          refine z_iload_n F dX8_meet_98 rfl ?_
          refine z_iast10n (q := 4) F (by with_reducible assumption) (by decide) (by rw [hz10]; omega) dX8_meet_99 ?_
          refine z_aload_n F dX8_meet_100 rfl ?_
          refine zg_X8_two F (by with_reducible assumption) fl_X8_37 dX8_meet_101 (fun hk_101 => ?_)
          refine z_iconst (v := 5) F dX8_meet_104 (by decide) ?_
          refine z_iconst (v := 0) F dX8_meet_105 (by decide) ?_
          refine z_iast10n (q := 5) F (by with_reducible assumption) (by decide) (by rw [hz10]; omega) dX8_meet_106 ?_
          refine z_aload_n F dX8_meet_107 rfl ?_
          refine zg_X8_two F (by with_reducible assumption) fl_X8_37 dX8_meet_108 (fun hk_108 => ?_)
          refine z_bipush (v := 6) F dX8_meet_111 (by decide) ?_
          refine z_iconst (v := 0) F dX8_meet_113 (by decide) ?_
          refine z_iast10n (q := 6) F (by with_reducible assumption) (by decide) (by rw [hz10]; omega) dX8_meet_114 ?_
          refine z_aload_n F dX8_meet_115 rfl ?_
          refine zg_X8_two F (by with_reducible assumption) fl_X8_37 dX8_meet_116 (fun hk_116 => ?_)
          refine z_bipush (v := 7) F dX8_meet_119 (by decide) ?_
          refine z_bipush (v := 99) F dX8_meet_121 (by decide) ?_
          refine z_iast10n (q := 7) F (by with_reducible assumption) (by decide) (by rw [hz10]; omega) dX8_meet_123 ?_
          refine z_iconst (v := 0) F dX8_meet_124 (by decide) ?_
          refine z_istore_n (lv' := [_, _, _, _, _, _]) F dX8_meet_125 (by decide) rfl rfl ?_
          refine z_iconst (v := 0) F dX8_meet_126 (by decide) ?_
          refine z_istore (lv' := [_, _, _, _, _, _]) F dX8_meet_127 (by decide) rfl rfl ?_
          try simp only [zs_zaa]
          obtain ⟨j2, hj2, ex⟩ := n_in (n := nt) (by rw [← hnt]; exact h_6) (by omega)
          have hT : mtOK (mtT (M.1 (o + 10)) (M.1 (o + 3) 0) (M.1 (o + 3) 1) (M.1 (o + 3) 2) (M.1 o 5) x) := by
            rcases tv.1 with z | ⟨j1, hj1, z⟩
            · exact absurd z h_41
            · exact ⟨j1, j2, by omega, by omega, z, ex⟩
          exact key _ (fun lv5 => fin _ lv5 rfl ⟨h_6, by grind⟩ (fun z => z.elim (fun z => z h_30) h_41)) 200 0 _ 0 none rfl hT rfl
        · try simp only [zs_zaa, e0, e3] at h_41
          refine z_bipush (v := (-2)) F dX8_meet_44 (by decide) ?_
          refine z_iret F X dX8_meet_46 ?_
          exact Or.inr ⟨⟨h_6, by grind⟩, Or.inl ⟨Or.inr h_41, rfl, rfl⟩⟩
    · replace h_18 := bI_0.mp h_18
      try simp only [zs_zaa, e0, e3] at h_18
      refine z_iconst (v := (-1)) F dX8_meet_21 (by decide) ?_
      refine z_iret F X dX8_meet_22 ?_
      exact Or.inl ⟨fun z => h_18 (by grind), rfl, rfl⟩
