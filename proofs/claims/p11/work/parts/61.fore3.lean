def stdW (rb th pe : zF1) (np a : Nat) (T : zF1) (p k : Nat) : Int32 := wrt th ((homeF rb th (va_up pe (2 * p) (nI k)) np (12 - a) (T, -4)).1 (5 + p))
theorem rOK_2 {M : zM} {o nt np a : Nat} (ok : rOK M o nt np a) (q : Nat) (v : Int32) : rOK (zs M (o + 2) q v) o nt np a := by
  unfold rOK at *
  rw [zs_off _ (by omega), zs_off _ (by omega), zs_off _ (by omega)]
  exact ok
theorem zgf_2 {M M' : zM} {o q : Nat} {v u : Int32} (h : zgf o (zs M (o + 2) q v) M') : zgf o (zs M (o + 2) q u) (zs M' (o + 2) q u) := by
  refine ⟨h.1, fun b a1 a2 a3 a4 => ?_, fun k a1 a2 a3 => ?_, by rw [zs_off _ (by omega)]; exact h.2.2.2⟩
  · by_cases e : b = o + 2
    · rw [e, zs_at, zs_at, h.2.1 (o + 2) (by omega) (by omega) (by omega) (by omega), zs_at, bx_uu]
    · rw [zs_off _ e, zs_off _ e, h.2.1 b a1 a2 a3 a4, zs_off _ e]
  · rw [zs_off _ (by omega), zs_off _ (by omega), h.2.2.1 k a1 a2 a3, zs_off _ (by omega)]
theorem c_X8_stand {l : Launch} {w : zE} (J : zJ w) {M : zM} {o nt np a : Nat} {x k : Int32} (hk : zk o = 8) (ho : o = 138) (ok : rOK M o nt np a) : zCi l w yX8_stand cX8_stand 8 (some .int) 7 [.ref (w.2.2 o), .int x, .int k] M (fun r M2 => zgf o M M2 ∧ r = if (0 ≤ x ∧ x < M.1 o 1) ∧ ¬ (k < 0 ∨ 1 < k) then (if a = 12 then -2 else if k = 0 then (standL (stdW (rbM (M.1 o)) (M.1 (o + 1)) (M.1 (o + 2)) np a (M.1 (o + 3)) x.toNatClampNeg) (12 - a) a (-1, -4)).2 else (standL (stdW (rbM (M.1 o)) (M.1 (o + 1)) (M.1 (o + 2)) np a (M.1 (o + 3)) x.toNatClampNeg) (12 - a) a (-1, -4)).1) else -1) := by
  obtain ⟨hz1, hz2, hz3, hz4, hz5, hz6, hz7, hz8, hz9, hz10, hz11, hz12, hz13, hz14, hz15⟩ := zn8 ho
  obtain ⟨hnt, h10, hnp, h8, kd, tv, ha, h12, hts⟩ := id ok
  refine zCi_of J zm_X8_stand [some (.ref (w.2.2 o)), some (.int x), some (.int k), none, none, none, none, none] (Nat.le_of_ble_eq_true rfl) rfl (fun g hg F X => ?_)
  subst hg
  have key : ∀ (p : Nat), p < np → x = nI p → ((0 ≤ x ∧ x < M.1 o 1) ∧ ¬ (k < 0 ∨ 1 < k)) → a < 12 → ∀ (j m : Nat) (s : Int32 × Int32) (x7 : Option Value) (M' : zM) (u : Int32), m + j = 12 → zok [none, none, none, none, none, none, none, x7] 7 = true → zgf o (zs M (o + 2) (2 * p) u) M' → M'.1 (o + 8) = M.1 (o + 3) → M'.1 o 7 = -4 → standL (stdW (rbM (M.1 o)) (M.1 (o + 1)) (M.1 (o + 2)) np a (M.1 (o + 3)) p) j m s = standL (stdW (rbM (M.1 o)) (M.1 (o + 1)) (M.1 (o + 2)) np a (M.1 (o + 3)) p) (12 - a) a (-1, -4) → ZW w g 8 68 [some (.ref (w.2.2 o)), some (.int (nI p)), some (.int k), some (.int (M.1 (o + 2) (2 * p))), some (.int s.2), some (.int s.1), some (.int (nI m)), x7] [] M' := by
    intro p hp hxp hc ha12 j
    have hpc : x.toNatClampNeg = p := by rw [hxp]; exact nI_clamp (by omega)
    rw [hpc] at X
    generalize hW : stdW (rbM (M.1 o)) (M.1 (o + 1)) (M.1 (o + 2)) np a (M.1 (o + 3)) p = W at X ⊢
    induction j with
    | zero =>
      intro m s x7 M' u hmj h7z hf h8a h7 hs
      have e : m = 12 := by omega
      subst e
      rw [← hs] at X
      have e5 : zs M (o + 2) (2 * p) (M.1 (o + 2) (2 * p)) = M := by rw [zs_za, va_up_id, za_self]
      have q := zgf_2 (u := M.1 (o + 2) (2 * p)) hf
      rw [e5] at q
      refine z_iload F dX8_stand_68 rfl ?_
      refine z_bipush (v := 12) F dX8_stand_70 (by decide) ?_
      refine z_ic_ge (tgt := 145) F dX8_stand_72 (by decide) (fun h_72 => ?_) (fun h_72 => absurd h_72 (by decide))
      refine z_aload_n F dX8_stand_145 rfl ?_
      refine zg_X8_person F (by with_reducible assumption) fl_X8_13 dX8_stand_146 (fun hk_146 => ?_)
      refine z_iconst (v := 2) F dX8_stand_149 (by decide) ?_
      refine z_iload_n F dX8_stand_150 rfl ?_
      refine z_imul F dX8_stand_151 ?_
      refine z_iload_n F dX8_stand_152 rfl ?_
      refine z_iast10n (q := (2 * p)) F (by with_reducible assumption) (by first | with_reducible rfl | (simp only [n4, n2, n3, n5, n14, n16, na1, na2, na3, nI_add, nI_1, nI_pred]; done) | (simp only [n4, n2, n3, n5, n14, n16, na1, na2, na3, nI_add, nI_1, nI_pred, Nat.add_assoc, Nat.add_comm, Nat.add_left_comm]; done)) (by rw [hz2]; omega) dX8_stand_153 ?_
      refine z_iload_n F dX8_stand_154 rfl ?_
      refine z_if_ne (tgt := 163) F dX8_stand_155 (by decide) (fun h_155 => ?_) (fun h_155 => ?_)
      · refine z_iload F dX8_stand_163 rfl ?_
        refine z_iret F X dX8_stand_165 ?_
        exact ⟨q, by rw [if_pos hc, if_neg (by omega), if_neg h_155]; rfl⟩
      · refine z_iload F dX8_stand_158 rfl ?_
        refine z_goto (tgt := 165) F dX8_stand_160 (by decide) ?_
        refine z_iret F X dX8_stand_165 ?_
        exact ⟨q, by rw [if_pos hc, if_neg (by omega), if_pos h_155]; rfl⟩
    | succ j ih =>
      intro m s x7 M' u hmj h7z hf h8a h7 hs
      rw [standL] at hs
      have hf2 := zgf_2 (u := nI m) hf
      have ok2 := rOK_2 ok (2 * p) (nI m)
      have t3 : (zs M' (o + 2) (2 * p) (nI m)).1 (o + 3) = M.1 (o + 3) := by rw [hf2.2.1 (o + 3) (by omega) (by omega) (by omega) (by omega), zs_off _ (by omega)]
      have t7 : (zs M' (o + 2) (2 * p) (nI m)).1 o 7 = -4 := by rw [zs_off _ (by omega)]; exact h7
      have t8 : (zs M' (o + 2) (2 * p) (nI m)).1 o 8 = 0 := hf2.2.2.2
      have hH : homeM (rbM ((zs M (o + 2) (2 * p) (nI m)).1 o)) ((zs M (o + 2) (2 * p) (nI m)).1 (o + 1)) ((zs M (o + 2) (2 * p) (nI m)).1 (o + 2)) np (-4) 0 (12 - a) (M.1 (o + 3), -4) = homeF (rbM (M.1 o)) (M.1 (o + 1)) (va_up (M.1 (o + 2)) (2 * p) (nI m)) np (12 - a) (M.1 (o + 3), -4) := by
        rw [homeM_F _ _ _ _ _ ha (by omega), zs_off _ (by omega), zs_off _ (by omega), zs_at]
      have tvh : tv9 nt (homeF (rbM (M.1 o)) (M.1 (o + 1)) (va_up (M.1 (o + 2)) (2 * p) (nI m)) np (12 - a) (M.1 (o + 3), -4)).1 := hm_tv _ _ _ (by omega) ha (by omega) tv
      have hWm : wrt (M.1 (o + 1)) ((homeF (rbM (M.1 o)) (M.1 (o + 1)) (va_up (M.1 (o + 2)) (2 * p) (nI m)) np (12 - a) (M.1 (o + 3), -4)).1 (5 + p)) = W m := by rw [← hW]; rfl
      generalize homeF (rbM (M.1 o)) (M.1 (o + 1)) (va_up (M.1 (o + 2)) (2 * p) (nI m)) np (12 - a) (M.1 (o + 3), -4) = H at hH tvh hWm
      have t1 : (zs M' (o + 2) (2 * p) (nI m)).1 (o + 1) = M.1 (o + 1) := by rw [hf2.2.1 (o + 1) (by omega) (by omega) (by omega) (by omega), zs_off _ (by omega)]
      refine z_iload F dX8_stand_68 rfl ?_
      refine z_bipush (v := 12) F dX8_stand_70 (by decide) ?_
      refine z_ic_ge (tgt := 145) F dX8_stand_72 (by decide) (fun h_72 => absurd h_72 (nle (nI_lt (b := 12) (by omega) (by decide)))) (fun h_72 => ?_)
      refine z_aload_n F dX8_stand_75 rfl ?_
      refine zg_X8_person F (by with_reducible assumption) fl_X8_13 dX8_stand_76 (fun hk_76 => ?_)
      refine z_iconst (v := 2) F dX8_stand_79 (by decide) ?_
      refine z_iload_n F dX8_stand_80 rfl ?_
      refine z_imul F dX8_stand_81 ?_
      refine z_iload F dX8_stand_82 rfl ?_
      refine z_iast10n (q := (2 * p)) F (by with_reducible assumption) (by first | with_reducible rfl | (simp only [n4, n2, n3, n5, n14, n16, na1, na2, na3, nI_add, nI_1, nI_pred]; done) | (simp only [n4, n2, n3, n5, n14, n16, na1, na2, na3, nI_add, nI_1, nI_pred, Nat.add_assoc, Nat.add_comm, Nat.add_left_comm]; done)) (by rw [hz2]; omega) dX8_stand_84 ?_
      refine z_aload_n F dX8_stand_85 rfl ?_
      refine z_callVv F (d_home_at J hk ho ok2 hf2.x (by rw [t3]; exact tv) (by rw [t3]; exact ha)) zm_X8_goesHome zv_X8_goesHome ml_X8_198 (by with_reducible assumption) (by decide) rfl rfl rfl (Nat.le_of_ble_eq_true rfl) dX8_stand_86 (by omega) (fun M_86 h_86 => ?_)
      replace h_86 := Eq.symm h_86
      subst h_86
      rw [t3, t7, t8, hH]
      refine z_aload_n F dX8_stand_89 rfl ?_
      refine z_aload_n F dX8_stand_90 rfl ?_
      refine zg_X8_now F (by with_reducible assumption) fl_X8_16 dX8_stand_91 (fun hk_91 => ?_)
      refine z_iconst (v := 5) F dX8_stand_94 (by decide) ?_
      refine z_iload_n F dX8_stand_95 rfl ?_
      refine z_iadd F dX8_stand_96 ?_
      refine z_iald10n (q := (5 + p)) F (by with_reducible assumption) (by first | with_reducible rfl | (simp only [n4, n2, n3, n5, n14, n16, na1, na2, na3, nI_add, nI_1, nI_pred]; done) | (simp only [n4, n2, n3, n5, n14, n16, na1, na2, na3, nI_add, nI_1, nI_pred, Nat.add_assoc, Nat.add_comm, Nat.add_left_comm]; done)) (by rw [hz3]; omega) dX8_stand_97 ?_
      rw [zr_T]
      refine z_callVi F (c_X8_worth J hk ho (tvh.2.1 p (by omega)) h10) zm_X8_worth zv_X8_worth ml_X8_173 (by with_reducible assumption) (by decide) rfl rfl rfl (Nat.le_of_ble_eq_true rfl) dX8_stand_98 (by omega) (fun r_98 M_98 h_98 => ?_)
      obtain ⟨e_98, rfl⟩ := h_98
      replace e_98 := Eq.symm e_98
      subst e_98
      rw [zr1, t1, hWm]
      refine z_istore (lv' := [_, _, _, _, _, _, _, _]) F dX8_stand_101 (by decide) rfl rfl ?_
      refine z_iload F dX8_stand_103 rfl ?_
      refine z_iload F dX8_stand_105 rfl ?_
      refine z_ic_le (tgt := 115) F dX8_stand_107 (by decide) (fun h_107 => ?_) (fun h_107 => ?_)
      · refine z_iload F dX8_stand_115 rfl ?_
        refine z_istore (lv' := [_, _, _, _, _, _, _, _]) F dX8_stand_117 (by decide) rfl rfl ?_
        refine z_iload F dX8_stand_119 rfl ?_
        refine z_iload F dX8_stand_121 rfl ?_
        refine z_ic_le (tgt := 131) F dX8_stand_123 (by decide) (fun h_123 => ?_) (fun h_123 => absurd h_123 (Int32.not_lt.mpr h_107))
        refine z_iload F dX8_stand_131 rfl ?_
        refine z_istore (lv' := [_, _, _, _, _, _, _, _]) F dX8_stand_133 (by decide) rfl rfl ?_
        refine z_aload_n F dX8_stand_135 rfl ?_
        refine z_callVv F (c_X8_backs J hk ho) zm_X8_backs zv_X8_backs ml_X8_201 (by with_reducible assumption) (by decide) rfl rfl rfl (Nat.le_of_ble_eq_true rfl) dX8_stand_136 (by omega) (fun M_136 h_136 => ?_)
        replace h_136 := Eq.symm h_136
        subst h_136
        refine z_iincc (c := 1) (lv' := [_, _, _, _, _, _, _, _]) F dX8_stand_139 rfl (by decide) (by decide) rfl rfl ?_
        refine z_goto (tgt := 68) F dX8_stand_142 (by decide) ?_
        rw [if_neg (Int32.not_lt.mpr h_107)] at hs
        rw [nI_1]
        refine ih (m + 1) s _ _ (nI m) (by omega) rfl (zgf.back hf2.x.r ?_) ?_ ?_ hs
        · rw [zr8, zs_off _ (by omega), h8a, zs_off _ (by omega)]
        · rw [zs_off _ (by omega), zs_off _ (by omega), za_off _ (by omega), zr8, zs_off _ (by omega), h8a]
        · rw [zs_at, va_up_ne _ _ (by decide), zs_at, va_up_self]
      · refine z_iload F dX8_stand_110 rfl ?_
        refine z_goto (tgt := 117) F dX8_stand_112 (by decide) ?_
        refine z_istore (lv' := [_, _, _, _, _, _, _, _]) F dX8_stand_117 (by decide) rfl rfl ?_
        refine z_iload F dX8_stand_119 rfl ?_
        refine z_iload F dX8_stand_121 rfl ?_
        refine z_ic_le (tgt := 131) F dX8_stand_123 (by decide) (fun h_123 => absurd h_123 (Int32.not_le.mpr h_107)) (fun h_123 => ?_)
        refine z_iload F dX8_stand_126 rfl ?_
        refine z_goto (tgt := 133) F dX8_stand_128 (by decide) ?_
        refine z_istore (lv' := [_, _, _, _, _, _, _, _]) F dX8_stand_133 (by decide) rfl rfl ?_
        refine z_aload_n F dX8_stand_135 rfl ?_
        refine z_callVv F (c_X8_backs J hk ho) zm_X8_backs zv_X8_backs ml_X8_201 (by with_reducible assumption) (by decide) rfl rfl rfl (Nat.le_of_ble_eq_true rfl) dX8_stand_136 (by omega) (fun M_136 h_136 => ?_)
        replace h_136 := Eq.symm h_136
        subst h_136
        refine z_iincc (c := 1) (lv' := [_, _, _, _, _, _, _, _]) F dX8_stand_139 rfl (by decide) (by decide) rfl rfl ?_
        refine z_goto (tgt := 68) F dX8_stand_142 (by decide) ?_
        rw [if_pos h_107] at hs
        rw [nI_1]
        refine ih (m + 1) (W m, nI m) _ _ (nI m) (by omega) rfl (zgf.back hf2.x.r ?_) ?_ ?_ hs
        · rw [zr8, zs_off _ (by omega), h8a, zs_off _ (by omega)]
        · rw [zs_off _ (by omega), zs_off _ (by omega), za_off _ (by omega), zr8, zs_off _ (by omega), h8a]
        · rw [zs_at, va_up_ne _ _ (by decide), zs_at, va_up_self]
  have a2 : (asd M o).1 (o + 2) = M.1 (o + 2) := asd_b M (by omega) (by omega)
  have a8 := asd_8 M o
  refine z_aload_n F dX8_stand_0 rfl ?_
  refine z_iload_n F dX8_stand_1 rfl ?_
  refine z_callVi F (c_X8_isPerson J hk hnp h8) zm_X8_isPerson zv_X8_isPerson ml_X8_111 (by with_reducible assumption) (by decide) rfl rfl rfl (Nat.le_of_ble_eq_true rfl) dX8_stand_2 (by omega) (fun r_2 M_2 h_2 => ?_)
  obtain ⟨e_2, rfl⟩ := h_2
  replace e_2 := Eq.symm e_2
  subst e_2
  refine z_if_eq (tgt := 18) F dX8_stand_5 (by decide) (fun h_5 => ?_) (fun h_5 => ?_)
  · replace h_5 := bI_0.mp h_5
    refine z_iconst (v := (-1)) F dX8_stand_18 (by decide) ?_
    refine z_iret F X dX8_stand_19 ?_
    exact ⟨zgf.rf hts, (if_neg (by grind)).symm⟩
  · replace h_5 := bI_1.mp h_5
    refine z_iload_n F dX8_stand_8 rfl ?_
    refine z_i2l F dX8_stand_9 ?_
    refine z_lconst (v := 0) F dX8_stand_10 (by decide) ?_
    refine z_lconst (v := 1) F dX8_stand_11 (by decide) ?_
    refine z_callSi F (d_X8_in J (a := 0) (b := 1) (by decide) (by decide)) zm_X8_in zst_X8_in ml_X8_72 rfl rfl (Nat.le_of_ble_eq_true rfl) dX8_stand_12 (by omega) (fun r_12 M_12 h_12 => ?_)
    obtain ⟨e_12, rfl⟩ := h_12
    replace e_12 := Eq.symm e_12
    subst e_12
    refine z_if_ne (tgt := 20) F dX8_stand_15 (by decide) (fun h_15 => ?_) (fun h_15 => ?_)
    · replace h_15 := bI_1.mp h_15
      refine z_aload_n F dX8_stand_20 rfl ?_
      refine zg_X8_now F (by with_reducible assumption) fl_X8_16 dX8_stand_21 (fun hk_21 => ?_)
      refine z_iconst (v := 3) F dX8_stand_24 (by decide) ?_
      refine z_iald10n (q := 3) F (by with_reducible assumption) (by decide) (by rw [hz3]; omega) dX8_stand_25 ?_
      refine z_bipush (v := 12) F dX8_stand_26 (by decide) ?_
      refine z_ic_ne (tgt := 34) F dX8_stand_28 (by decide) (fun h_28 => ?_) (fun h_28 => ?_)
      · refine z_aload_n F dX8_stand_34 rfl ?_
        refine z_callVv F (c_X8_asides J hk ho) zm_X8_asides zv_X8_asides ml_X8_195 (by with_reducible assumption) (by decide) rfl rfl rfl (Nat.le_of_ble_eq_true rfl) dX8_stand_35 (by omega) (fun M_35 h_35 => ?_)
        replace h_35 := Eq.symm h_35
        subst h_35
        refine z_aload_n F dX8_stand_38 rfl ?_
        refine z_bipush (v := (-4)) F dX8_stand_39 (by decide) ?_
        refine zp_X8_more F (by with_reducible assumption) fl_X8_186 dX8_stand_41 ?_
        rw [show zs (za M (o + 8) (M.1 (o + 3))) o 7 (-4) = asd M o from rfl]
        obtain ⟨p, hp, rfl⟩ := n_in (n := np) (by rw [← hnp]; exact h_5) (by omega)
        refine z_aload_n F dX8_stand_44 rfl ?_
        refine zg_X8_person F (by with_reducible assumption) fl_X8_13 dX8_stand_45 (fun hk_45 => ?_)
        refine z_iconst (v := 2) F dX8_stand_48 (by decide) ?_
        refine z_iload_n F dX8_stand_49 rfl ?_
        refine z_imul F dX8_stand_50 ?_
        refine z_iald10n (q := (2 * p)) F (by with_reducible assumption) (by first | with_reducible rfl | (simp only [n4, n2, n3, n5, n14, n16, na1, na2, na3, nI_add, nI_1, nI_pred]; done) | (simp only [n4, n2, n3, n5, n14, n16, na1, na2, na3, nI_add, nI_1, nI_pred, Nat.add_assoc, Nat.add_comm, Nat.add_left_comm]; done)) (by rw [hz2]; omega) dX8_stand_51 ?_
        rw [a2]
        refine z_istore_n (lv' := [_, _, _, _, _, _, _, _]) F dX8_stand_52 (by decide) rfl rfl ?_
        refine z_bipush (v := (-4)) F dX8_stand_53 (by decide) ?_
        refine z_istore (lv' := [_, _, _, _, _, _, _, _]) F dX8_stand_55 (by decide) rfl rfl ?_
        refine z_iconst (v := (-1)) F dX8_stand_57 (by decide) ?_
        refine z_istore (lv' := [_, _, _, _, _, _, _, _]) F dX8_stand_58 (by decide) rfl rfl ?_
        refine z_aload_n F dX8_stand_60 rfl ?_
        refine zg_X8_aside F (by with_reducible assumption) fl_X8_31 dX8_stand_61 (fun hk_61 => ?_)
        refine z_iconst (v := 3) F dX8_stand_64 (by decide) ?_
        refine z_iald10n (q := 3) F (by with_reducible assumption) (by decide) (by rw [hz8]; omega) dX8_stand_65 ?_
        rw [a8, ha]
        refine z_istore (lv' := [_, _, _, _, _, _, _, _]) F dX8_stand_66 (by decide) rfl rfl ?_
        have ha12 : a ≠ 12 := fun e => h_28 (by rw [ha, e]; rfl)
        refine key p hp rfl ⟨h_5, by grind⟩ (by omega) (12 - a) a (-1, -4) none (asd M o) (M.1 (o + 2) (2 * p)) (by omega) rfl ?_ (asd_8 M o) (asd_7 M o) rfl
        rw [zs_za, va_up_id, za_self]
        exact asd_f hts
      · refine z_bipush (v := (-2)) F dX8_stand_31 (by decide) ?_
        refine z_iret F X dX8_stand_33 ?_
        refine ⟨zgf.rf hts, ?_⟩
        rw [if_pos ⟨h_5, by grind⟩, if_pos]
        rw [ha] at h_28
        exact (nI_eq (b := 12) (by omega) (by decide)).mp h_28
    · replace h_15 := bI_0.mp h_15
      refine z_iconst (v := (-1)) F dX8_stand_18 (by decide) ?_
      refine z_iret F X dX8_stand_19 ?_
      exact ⟨zgf.rf hts, (if_neg (by grind)).symm⟩
