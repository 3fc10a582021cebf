/-! cares by chance, the reference's -/
def chN (Q : Nat → Int32) (x : Int32) : Nat → Nat
  | 0 => 0
  | r + 1 => chN Q x r + if Q r = x then 1 else 0
def chQ (rb th pe : zF1) (np a : Nat) (T : zF1) (r : Nat) : Int32 := (homeM rb th pe np (-4) (nI r <<< (nI a &&& 31)) (12 - a) (T, -4)).1 0
theorem c_X8_chance {l : Launch} {w : zE} (J : zJ w) {M : zM} {o nt np a : Nat} {x k : Int32} (hk : zk o = 8) (ho : o = 138) (ok : rOK M o nt np a) : zCi l w yX8_chance cX8_chance 6 (some .int) 7 [.ref (w.2.2 o), .int x, .int k] M (fun r M2 => zgf o M M2 ∧ r = if (¬ x = -4 ∧ ¬ (0 ≤ x ∧ x < M.1 o 0)) ∨ (k < 0 ∨ 1 < k) then -1 else if a < 2 then -3 else if k = 0 then (redL (12 - a) (nI (chN (chQ (rbM (M.1 o)) (M.1 (o + 1)) (M.1 (o + 2)) np a (M.1 (o + 3))) x (2 ^ (12 - a))))).1 else (redL (12 - a) (nI (chN (chQ (rbM (M.1 o)) (M.1 (o + 1)) (M.1 (o + 2)) np a (M.1 (o + 3))) x (2 ^ (12 - a))))).2) := by
  obtain ⟨hz1, hz2, hz3, hz4, hz5, hz6, hz7, hz8, hz9, hz10, hz11, hz12, hz13, hz14, hz15⟩ := zn8 ho
  obtain ⟨hnt, h10, hnp, h8, kd, tv, ha, h12, hts⟩ := id ok
  have hsub : 12 - nI a = nI (12 - a) := pk_sub (a := 12) (b := a) h12
  refine zCi_of J zm_X8_chance [some (.ref (w.2.2 o)), some (.int x), some (.int k), none, none, none] (Nat.le_of_ble_eq_true rfl) rfl (fun g hg F X => ?_)
  subst hg
  generalize hQ : chQ (rbM (M.1 o)) (M.1 (o + 1)) (M.1 (o + 2)) np a (M.1 (o + 3)) = Q at X
  generalize hW : nI (chN Q x (2 ^ (12 - a))) = W at X
  have key2 : ¬ ((¬ x = -4 ∧ ¬ (0 ≤ x ∧ x < M.1 o 0)) ∨ (k < 0 ∨ 1 < k)) → ¬ a < 2 → ∀ (M' : zM) (j : Nat) (u : Int32), j < 11 → zgf o M M' → redL j u = redL (12 - a) W → ZW w g 6 122 [some (.ref (w.2.2 o)), some (.int x), some (.int k), some (.int (nI (12 - a))), some (.int u), some (.int (nI (2 ^ j)))] [] M' := by
    intro hb ha2 M' j
    induction j with
    | zero =>
      intro u hj hf hs
      refine z_iload F dX8_chance_122 rfl ?_
      refine z_iconst (v := 2) F dX8_chance_124 (by decide) ?_
      refine z_irem F dX8_chance_125 (by decide) ?_
      refine z_if_ne (tgt := 150) F dX8_chance_126 (by decide) (fun h_126 => ?_) (fun h_126 => ?_)
      · refine z_iload_n F dX8_chance_150 rfl ?_
        refine z_if_ne (tgt := 159) F dX8_chance_151 (by decide) (fun h_151 => ?_) (fun h_151 => ?_)
        · refine z_iload F dX8_chance_159 rfl ?_
          refine z_iret F X dX8_chance_161 ?_
          exact ⟨hf, by rw [if_neg hb, if_neg ha2, if_neg h_151, ← hs]; rfl⟩
        · refine z_iload F dX8_chance_154 rfl ?_
          refine z_goto (tgt := 161) F dX8_chance_156 (by decide) ?_
          refine z_iret F X dX8_chance_161 ?_
          exact ⟨hf, by rw [if_neg hb, if_neg ha2, if_pos h_151, ← hs]; rfl⟩
      · refine z_iload F dX8_chance_129 rfl ?_
        refine z_iconst (v := 1) F dX8_chance_131 (by decide) ?_
        refine z_ic_le (tgt := 150) F dX8_chance_132 (by decide) (fun h_132 => ?_) (fun h_132 => absurd h_132 (by decide))
        refine z_iload_n F dX8_chance_150 rfl ?_
        refine z_if_ne (tgt := 159) F dX8_chance_151 (by decide) (fun h_151 => ?_) (fun h_151 => ?_)
        · refine z_iload F dX8_chance_159 rfl ?_
          refine z_iret F X dX8_chance_161 ?_
          exact ⟨hf, by rw [if_neg hb, if_neg ha2, if_neg h_151, ← hs]; rfl⟩
        · refine z_iload F dX8_chance_154 rfl ?_
          refine z_goto (tgt := 161) F dX8_chance_156 (by decide) ?_
          refine z_iret F X dX8_chance_161 ?_
          exact ⟨hf, by rw [if_neg hb, if_neg ha2, if_pos h_151, ← hs]; rfl⟩
    | succ j ih =>
      intro u hj hf hs
      rw [redL] at hs
      refine z_iload F dX8_chance_122 rfl ?_
      refine z_iconst (v := 2) F dX8_chance_124 (by decide) ?_
      refine z_irem F dX8_chance_125 (by decide) ?_
      refine z_if_ne (tgt := 150) F dX8_chance_126 (by decide) (fun h_126 => ?_) (fun h_126 => ?_)
      · refine z_iload_n F dX8_chance_150 rfl ?_
        refine z_if_ne (tgt := 159) F dX8_chance_151 (by decide) (fun h_151 => ?_) (fun h_151 => ?_)
        · refine z_iload F dX8_chance_159 rfl ?_
          refine z_iret F X dX8_chance_161 ?_
          rw [if_neg h_126] at hs
          exact ⟨hf, by rw [if_neg hb, if_neg ha2, if_neg h_151, ← hs]⟩
        · refine z_iload F dX8_chance_154 rfl ?_
          refine z_goto (tgt := 161) F dX8_chance_156 (by decide) ?_
          refine z_iret F X dX8_chance_161 ?_
          rw [if_neg h_126] at hs
          exact ⟨hf, by rw [if_neg hb, if_neg ha2, if_pos h_151, ← hs]⟩
      · refine z_iload F dX8_chance_129 rfl ?_
        refine z_iconst (v := 1) F dX8_chance_131 (by decide) ?_
        refine z_ic_le (tgt := 150) F dX8_chance_132 (by decide) (fun h_132 => absurd h_132 (pw_gt j (by omega))) (fun h_132 => ?_)
        refine z_iload F dX8_chance_135 rfl ?_
        refine z_iconst (v := 2) F dX8_chance_137 (by decide) ?_
        refine z_idiv F dX8_chance_138 (by decide) ?_
        refine z_istore (lv' := [_, _, _, _, _, _]) F dX8_chance_139 (by decide) rfl rfl ?_
        refine z_iload F dX8_chance_141 rfl ?_
        refine z_iconst (v := 2) F dX8_chance_143 (by decide) ?_
        refine z_idiv F dX8_chance_144 (by decide) ?_
        refine z_istore (lv' := [_, _, _, _, _, _]) F dX8_chance_145 (by decide) rfl rfl ?_
        refine z_goto (tgt := 122) F dX8_chance_147 (by decide) ?_
        rw [pw_dv j (by omega)]
        rw [if_pos h_126] at hs
        exact ih (u / 2) (by omega) hf hs
  have key : ¬ ((¬ x = -4 ∧ ¬ (0 ≤ x ∧ x < M.1 o 0)) ∨ (k < 0 ∨ 1 < k)) → ¬ a < 2 → ∀ (j r : Nat) (M' : zM), r + j = 2 ^ (12 - a) → zgf o M M' → M'.1 (o + 8) = M.1 (o + 3) → ZW w g 6 56 [some (.ref (w.2.2 o)), some (.int x), some (.int k), some (.int (nI (12 - a))), some (.int (nI (chN Q x r))), some (.int (nI r))] [] M' := by
    intro hb ha2 j
    have sh := pw_sh (12 - a) (by omega)
    have p2 : 2 ^ (12 - a) ≤ 2 ^ 10 := Nat.pow_le_pow_right (by decide) (by omega)
    induction j with
    | zero =>
      intro r M' hr hf h8a
      obtain rfl : r = 2 ^ (12 - a) := by omega
      refine z_iload F dX8_chance_56 rfl ?_
      refine z_iconst (v := 1) F dX8_chance_58 (by decide) ?_
      refine z_iload_n F dX8_chance_59 rfl ?_
      refine z_ishl F dX8_chance_60 ?_
      rw [sh]
      refine z_ic_ge (tgt := 117) F dX8_chance_61 (by decide) (fun h_61 => ?_) (fun h_61 => absurd h_61 (nlt (Int32.le_refl _)))
      refine z_iconst (v := 1) F dX8_chance_117 (by decide) ?_
      refine z_iload_n F dX8_chance_118 rfl ?_
      refine z_ishl F dX8_chance_119 ?_
      refine z_istore (lv' := [_, _, _, _, _, _]) F dX8_chance_120 (by decide) rfl rfl ?_
      rw [sh, hW]
      exact key2 hb ha2 M' (12 - a) W (by omega) hf rfl
    | succ j ih =>
      intro r M' hr hf h8a
      have e8 : (zs M' o 7 (-4)).1 (o + 8) 3 = nI a := by rw [zs_off _ (by omega), h8a]; exact ha
      have g1 : zgx o M (zs (zs M' o 7 (-4)) o 8 (nI r <<< (nI a &&& 31))) := (hf.x.s (Or.inl rfl)).s (Or.inr (Or.inl rfl))
      have g3 : (zs (zs M' o 7 (-4)) o 8 (nI r <<< (nI a &&& 31))).1 (o + 3) = M.1 (o + 3) := by rw [zs_off _ (by omega), zs_off _ (by omega)]; exact hf.2.1 (o + 3) (by omega) (by omega) (by omega) (by omega)
      have g7 : (zs (zs M' o 7 (-4)) o 8 (nI r <<< (nI a &&& 31))).1 o 7 = -4 := by rw [zs_at, va_up_ne _ _ (by decide), zs_at, va_up_self]
      have g8 : (zs (zs M' o 7 (-4)) o 8 (nI r <<< (nI a &&& 31))).1 o 8 = nI r <<< (nI a &&& 31) := by rw [zs_at, va_up_self]
      have g9 : (zs (zs M' o 7 (-4)) o 8 (nI r <<< (nI a &&& 31))).1 (o + 8) = M.1 (o + 3) := by rw [zs_off _ (by omega), zs_off _ (by omega)]; exact h8a
      have hq : (homeM (rbM (M.1 o)) (M.1 (o + 1)) (M.1 (o + 2)) np (-4) (nI r <<< (nI a &&& 31)) (12 - a) (M.1 (o + 3), -4)).1 0 = Q r := by rw [← hQ, chQ]
      refine z_iload F dX8_chance_56 rfl ?_
      refine z_iconst (v := 1) F dX8_chance_58 (by decide) ?_
      refine z_iload_n F dX8_chance_59 rfl ?_
      refine z_ishl F dX8_chance_60 ?_
      rw [sh]
      refine z_ic_ge (tgt := 117) F dX8_chance_61 (by decide) (fun h_61 => absurd h_61 (nle (nI_lt (by omega) (by omega)))) (fun h_61 => ?_)
      refine z_aload_n F dX8_chance_64 rfl ?_
      refine z_bipush (v := (-4)) F dX8_chance_65 (by decide) ?_
      refine zp_X8_more F (by with_reducible assumption) fl_X8_186 dX8_chance_67 ?_
      refine z_aload_n F dX8_chance_70 rfl ?_
      refine z_iload F dX8_chance_71 rfl ?_
      refine z_aload_n F dX8_chance_73 rfl ?_
      refine zg_X8_aside F (by with_reducible assumption) fl_X8_31 dX8_chance_74 (fun hk_74 => ?_)
      refine z_iconst (v := 3) F dX8_chance_77 (by decide) ?_
      refine z_iald10n (q := 3) F (by with_reducible assumption) (by decide) (by rw [hz8]; omega) dX8_chance_78 ?_
      try simp only [e8]
      refine z_ishl F dX8_chance_79 ?_
      refine zp_X8_tossed F (by with_reducible assumption) fl_X8_163 dX8_chance_80 ?_
      refine z_aload_n F dX8_chance_83 rfl ?_
      refine z_callVv F (d_home_at J hk ho ok g1 (by rw [g3]; exact tv) (by rw [g3]; exact ha)) zm_X8_goesHome zv_X8_goesHome ml_X8_198 (by with_reducible assumption) (by decide) rfl rfl rfl (Nat.le_of_ble_eq_true rfl) dX8_chance_84 (by omega) (fun M_84 h_84 => ?_)
      replace h_84 := Eq.symm h_84
      subst h_84
      rw [g7, g8, g3]
      refine z_iload F dX8_chance_87 rfl ?_
      refine z_aload_n F dX8_chance_89 rfl ?_
      refine zg_X8_now F (by with_reducible assumption) fl_X8_16 dX8_chance_90 (fun hk_90 => ?_)
      refine z_iconst (v := 0) F dX8_chance_93 (by decide) ?_
      refine z_iald10n (q := 0) F (by with_reducible assumption) (by decide) (by rw [hz3]; omega) dX8_chance_94 ?_
      rw [zr_T, hq]
      refine z_iload_n F dX8_chance_95 rfl ?_
      refine z_ic_ne (tgt := 103) F dX8_chance_96 (by decide) (fun h_96 => ?_) (fun h_96 => ?_)
      · try simp only [e8] at h_96
        refine z_iconst (v := 0) F dX8_chance_103 (by decide) ?_
        refine z_iadd F dX8_chance_104 ?_
        refine z_istore (lv' := [_, _, _, _, _, _]) F dX8_chance_105 (by decide) rfl rfl ?_
        refine z_aload_n F dX8_chance_107 rfl ?_
        refine z_callVv F (c_X8_backs J hk ho) zm_X8_backs zv_X8_backs ml_X8_201 (by with_reducible assumption) (by decide) rfl rfl rfl (Nat.le_of_ble_eq_true rfl) dX8_chance_108 (by omega) (fun M_108 h_108 => ?_)
        replace h_108 := Eq.symm h_108
        subst h_108
        refine z_iincc (c := 1) (lv' := [_, _, _, _, _, _]) F dX8_chance_111 rfl (by decide) (by decide) rfl rfl ?_
        refine z_goto (tgt := 56) F dX8_chance_114 (by decide) ?_
        have ce : nI (chN Q x r) + 0 = nI (chN Q x (r + 1)) := by rw [chN, if_neg h_96, Int32.add_zero, Nat.add_zero]
        rw [ce, nI_1]
        refine ih (r + 1) _ (by omega) (zgf.back g1.r ((zr8 _ _ _ _).trans g9)) ?_
        rw [zs_off _ (by omega), zs_off _ (by omega), za_off _ (by omega)]
        exact (zr8 _ _ _ _).trans g9
      · try simp only [e8] at h_96
        refine z_iconst (v := 1) F dX8_chance_99 (by decide) ?_
        refine z_goto (tgt := 104) F dX8_chance_100 (by decide) ?_
        refine z_iadd F dX8_chance_104 ?_
        refine z_istore (lv' := [_, _, _, _, _, _]) F dX8_chance_105 (by decide) rfl rfl ?_
        refine z_aload_n F dX8_chance_107 rfl ?_
        refine z_callVv F (c_X8_backs J hk ho) zm_X8_backs zv_X8_backs ml_X8_201 (by with_reducible assumption) (by decide) rfl rfl rfl (Nat.le_of_ble_eq_true rfl) dX8_chance_108 (by omega) (fun M_108 h_108 => ?_)
        replace h_108 := Eq.symm h_108
        subst h_108
        refine z_iincc (c := 1) (lv' := [_, _, _, _, _, _]) F dX8_chance_111 rfl (by decide) (by decide) rfl rfl ?_
        refine z_goto (tgt := 56) F dX8_chance_114 (by decide) ?_
        have ce : nI (chN Q x r) + 1 = nI (chN Q x (r + 1)) := by rw [chN, if_pos h_96, nI_1]
        rw [ce, nI_1]
        refine ih (r + 1) _ (by omega) (zgf.back g1.r ((zr8 _ _ _ _).trans g9)) ?_
        rw [zs_off _ (by omega), zs_off _ (by omega), za_off _ (by omega)]
        exact (zr8 _ _ _ _).trans g9
  refine z_iload_n F dX8_chance_0 rfl ?_
  refine z_bipush (v := (-4)) F dX8_chance_1 (by decide) ?_
  refine z_ic_eq (tgt := 15) F dX8_chance_3 (by decide) (fun h_3 => ?_) (fun h_3 => ?_)
  · try simp only [ha] at h_3
    refine z_iload_n F dX8_chance_15 rfl ?_
    refine z_i2l F dX8_chance_16 ?_
    refine z_lconst (v := 0) F dX8_chance_17 (by decide) ?_
    refine z_lconst (v := 1) F dX8_chance_18 (by decide) ?_
    refine z_callSi F (d_X8_in J (a := 0) (b := 1) (by decide) (by decide)) zm_X8_in zst_X8_in ml_X8_72 rfl rfl (Nat.le_of_ble_eq_true rfl) dX8_chance_19 (by omega) (fun r_19 M_19 h_19 => ?_)
    obtain ⟨e_19, rfl⟩ := h_19
    replace e_19 := Eq.symm e_19
    subst e_19
    refine z_if_ne (tgt := 27) F dX8_chance_22 (by decide) (fun h_22 => ?_) (fun h_22 => ?_)
    · replace h_22 := bI_1.mp h_22
      try simp only [ha] at h_22
      refine z_bipush (v := 12) F dX8_chance_27 (by decide) ?_
      refine z_aload_n F dX8_chance_29 rfl ?_
      refine zg_X8_now F (by with_reducible assumption) fl_X8_16 dX8_chance_30 (fun hk_30 => ?_)
      refine z_iconst (v := 3) F dX8_chance_33 (by decide) ?_
      refine z_iald10n (q := 3) F (by with_reducible assumption) (by decide) (by rw [hz3]; omega) dX8_chance_34 ?_
      try simp only [ha]
      refine z_isub F dX8_chance_35 ?_
      rw [hsub]
      refine z_istore_n (lv' := [_, _, _, _, _, _]) F dX8_chance_36 (by decide) rfl rfl ?_
      refine z_iload_n F dX8_chance_37 rfl ?_
      refine z_bipush (v := 10) F dX8_chance_38 (by decide) ?_
      refine z_ic_le (tgt := 46) F dX8_chance_40 (by decide) (fun h_40 => ?_) (fun h_40 => ?_)
      · try simp only [ha] at h_40
        refine z_aload_n F dX8_chance_46 rfl ?_
        refine z_callVv F (c_X8_asides J hk ho) zm_X8_asides zv_X8_asides ml_X8_195 (by with_reducible assumption) (by decide) rfl rfl rfl (Nat.le_of_ble_eq_true rfl) dX8_chance_47 (by omega) (fun M_47 h_47 => ?_)
        replace h_47 := Eq.symm h_47
        subst h_47
        refine z_iconst (v := 0) F dX8_chance_50 (by decide) ?_
        refine z_istore (lv' := [_, _, _, _, _, _]) F dX8_chance_51 (by decide) rfl rfl ?_
        refine z_iconst (v := 0) F dX8_chance_53 (by decide) ?_
        refine z_istore (lv' := [_, _, _, _, _, _]) F dX8_chance_54 (by decide) rfl rfl ?_
        have ha2 : ¬ a < 2 := fun z => by
          have := (nI_leI (b := 10) (by omega) (by decide)).mp h_40
          omega
        have hf : zgf o M (za M (o + 8) (M.1 (o + 3))) := ⟨rfl, fun b a1 a2 a3 a4 => za_off _ a2, fun q _ _ _ => congrFun (za_off _ (by omega)) q, by rw [za_off _ (by omega)]; exact hts⟩
        refine key ?_ ha2 (2 ^ (12 - a)) 0 _ (by omega) hf (za_at _ _ _)
        first | exact fun q => q.elim (fun q => q.1 h_3) (by grind) | exact fun q => q.elim (fun q => q.2 h_12) (by grind)
      · try simp only [ha] at h_40
        refine z_bipush (v := (-3)) F dX8_chance_43 (by decide) ?_
        refine z_iret F X dX8_chance_45 ?_
        have ha2 : a < 2 := by
          have := (nI_ltI (a := 10) (by decide) (by omega)).mp h_40
          omega
        refine ⟨zgf.rf hts, ?_⟩
        rw [if_neg ?_, if_pos ha2]
        first | exact fun q => q.elim (fun q => q.1 h_3) (by grind) | exact fun q => q.elim (fun q => q.2 h_12) (by grind)
    · replace h_22 := bI_0.mp h_22
      try simp only [ha] at h_22
      refine z_iconst (v := (-1)) F dX8_chance_25 (by decide) ?_
      refine z_iret F X dX8_chance_26 ?_
      refine ⟨zgf.rf hts, (if_pos ?_).symm⟩
      first | exact Or.inl ⟨h_3, h_12⟩ | exact Or.inr (by grind)
  · try simp only [ha] at h_3
    refine z_aload_n F dX8_chance_6 rfl ?_
    refine z_iload_n F dX8_chance_7 rfl ?_
    refine z_i2l F dX8_chance_8 ?_
    refine z_callVi F (d_X8_isThing J hk hnt h10) zm_X8_isThing zv_X8_isThing ml_X8_89 (by with_reducible assumption) (by decide) rfl rfl rfl (Nat.le_of_ble_eq_true rfl) dX8_chance_9 (by omega) (fun r_9 M_9 h_9 => ?_)
    obtain ⟨e_9, rfl⟩ := h_9
    replace e_9 := Eq.symm e_9
    subst e_9
    refine z_if_eq (tgt := 25) F dX8_chance_12 (by decide) (fun h_12 => ?_) (fun h_12 => ?_)
    · replace h_12 := bI_0.mp h_12
      try simp only [ha] at h_12
      refine z_iconst (v := (-1)) F dX8_chance_25 (by decide) ?_
      refine z_iret F X dX8_chance_26 ?_
      refine ⟨zgf.rf hts, (if_pos ?_).symm⟩
      first | exact Or.inl ⟨h_3, h_12⟩ | exact Or.inr (by grind)
    · replace h_12 := bI_1.mp h_12
      try simp only [ha] at h_12
      refine z_iload_n F dX8_chance_15 rfl ?_
      refine z_i2l F dX8_chance_16 ?_
      refine z_lconst (v := 0) F dX8_chance_17 (by decide) ?_
      refine z_lconst (v := 1) F dX8_chance_18 (by decide) ?_
      refine z_callSi F (d_X8_in J (a := 0) (b := 1) (by decide) (by decide)) zm_X8_in zst_X8_in ml_X8_72 rfl rfl (Nat.le_of_ble_eq_true rfl) dX8_chance_19 (by omega) (fun r_19 M_19 h_19 => ?_)
      obtain ⟨e_19, rfl⟩ := h_19
      replace e_19 := Eq.symm e_19
      subst e_19
      refine z_if_ne (tgt := 27) F dX8_chance_22 (by decide) (fun h_22 => ?_) (fun h_22 => ?_)
      · replace h_22 := bI_1.mp h_22
        try simp only [ha] at h_22
        refine z_bipush (v := 12) F dX8_chance_27 (by decide) ?_
        refine z_aload_n F dX8_chance_29 rfl ?_
        refine zg_X8_now F (by with_reducible assumption) fl_X8_16 dX8_chance_30 (fun hk_30 => ?_)
        refine z_iconst (v := 3) F dX8_chance_33 (by decide) ?_
        refine z_iald10n (q := 3) F (by with_reducible assumption) (by decide) (by rw [hz3]; omega) dX8_chance_34 ?_
        try simp only [ha]
        refine z_isub F dX8_chance_35 ?_
        rw [hsub]
        refine z_istore_n (lv' := [_, _, _, _, _, _]) F dX8_chance_36 (by decide) rfl rfl ?_
        refine z_iload_n F dX8_chance_37 rfl ?_
        refine z_bipush (v := 10) F dX8_chance_38 (by decide) ?_
        refine z_ic_le (tgt := 46) F dX8_chance_40 (by decide) (fun h_40 => ?_) (fun h_40 => ?_)
        · try simp only [ha] at h_40
          refine z_aload_n F dX8_chance_46 rfl ?_
          refine z_callVv F (c_X8_asides J hk ho) zm_X8_asides zv_X8_asides ml_X8_195 (by with_reducible assumption) (by decide) rfl rfl rfl (Nat.le_of_ble_eq_true rfl) dX8_chance_47 (by omega) (fun M_47 h_47 => ?_)
          replace h_47 := Eq.symm h_47
          subst h_47
          refine z_iconst (v := 0) F dX8_chance_50 (by decide) ?_
          refine z_istore (lv' := [_, _, _, _, _, _]) F dX8_chance_51 (by decide) rfl rfl ?_
          refine z_iconst (v := 0) F dX8_chance_53 (by decide) ?_
          refine z_istore (lv' := [_, _, _, _, _, _]) F dX8_chance_54 (by decide) rfl rfl ?_
          have ha2 : ¬ a < 2 := fun z => by
            have := (nI_leI (b := 10) (by omega) (by decide)).mp h_40
            omega
          have hf : zgf o M (za M (o + 8) (M.1 (o + 3))) := ⟨rfl, fun b a1 a2 a3 a4 => za_off _ a2, fun q _ _ _ => congrFun (za_off _ (by omega)) q, by rw [za_off _ (by omega)]; exact hts⟩
          refine key ?_ ha2 (2 ^ (12 - a)) 0 _ (by omega) hf (za_at _ _ _)
          first | exact fun q => q.elim (fun q => q.1 h_3) (by grind) | exact fun q => q.elim (fun q => q.2 h_12) (by grind)
        · try simp only [ha] at h_40
          refine z_bipush (v := (-3)) F dX8_chance_43 (by decide) ?_
          refine z_iret F X dX8_chance_45 ?_
          have ha2 : a < 2 := by
            have := (nI_ltI (a := 10) (by decide) (by omega)).mp h_40
            omega
          refine ⟨zgf.rf hts, ?_⟩
          rw [if_neg ?_, if_pos ha2]
          first | exact fun q => q.elim (fun q => q.1 h_3) (by grind) | exact fun q => q.elim (fun q => q.2 h_12) (by grind)
      · replace h_22 := bI_0.mp h_22
        try simp only [ha] at h_22
        refine z_iconst (v := (-1)) F dX8_chance_25 (by decide) ?_
        refine z_iret F X dX8_chance_26 ?_
        refine ⟨zgf.rf hts, (if_pos ?_).symm⟩
        first | exact Or.inl ⟨h_3, h_12⟩ | exact Or.inr (by grind)
