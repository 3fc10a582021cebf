theorem d_home_at {l : Launch} {w : zE} (J : zJ w) {M M' : zM} {o nt np a : Nat} (hk : zk o = 8) (ho : o = 138) (ok : rOK M o nt np a) (x : zgx o M M') (tv : tv9 nt (M'.1 (o + 3))) (ha : M'.1 (o + 3) 3 = nI a) : zCv l w yX8_goesHome cX8_goesHome 1 6 [.ref (w.2.2 o)] M' (fun M2 => M2 = zr M' o (homeM (rbM (M.1 o)) (M.1 (o + 1)) (M.1 (o + 2)) np (M'.1 o 7) (M'.1 o 8) (12 - a) (M'.1 (o + 3), -4)).1 (homeM (rbM (M.1 o)) (M.1 (o + 1)) (M.1 (o + 2)) np (M'.1 o 7) (M'.1 o 8) (12 - a) (M'.1 (o + 3), -4)).2) := by
  obtain ⟨hnt, h10, hnp, h8, kd, _, _, h12, hts⟩ := id ok
  have e1 := x.2.1 (o + 1) (by omega) (by omega) (by omega) (by omega) (by omega)
  have e2 := x.2.1 (o + 2) (by omega) (by omega) (by omega) (by omega) (by omega)
  refine zCv_post (fun M2 h => ?_) (c_X8_goesHome (nt := nt) (np := np) (a := a) J hk ho (by rw [x.2.2 0 (by decide) (by decide) (by decide)]; exact hnt) h10 (by rw [x.2.2 1 (by decide) (by decide) (by decide)]; exact hnp) h8 (by rw [e1]; exact kd) tv ha h12)
  rw [h, rbM_x x, e1, e2]
theorem asd_f {M : zM} {o : Nat} (h : M.1 o 8 = 0) : zgf o M (asd M o) := ⟨(asd_x M o).1, fun b a1 a2 _ _ => asd_b M a1 a2, (asd_x M o).2.2, by rw [asd_o _ (by decide)]; exact h⟩
def firstR (rb th pe : zF1) (np a : Nat) (T : zF1) (k : Nat) : Int32 := (homeF rb th pe np (12 - a) (va_up (va_up T 0 (nI k)) 1 (if T 0 = -4 then 0 else T 1), -4)).1 0
theorem c_X8_first {l : Launch} {w : zE} (J : zJ w) {M : zM} {o nt np a : Nat} {x : Int32} (hk : zk o = 8) (ho : o = 138) (ok : rOK M o nt np a) : zCi l w yX8_first cX8_first 4 (some .int) 7 [.ref (w.2.2 o), .int x] M (fun r M2 => zgf o M M2 ∧ r = if 0 ≤ x ∧ x < M.1 o 0 then firstL (fun k => whoR (M.1 (o + 3)) (nI k) np) (firstR (rbM (M.1 o)) (M.1 (o + 1)) (M.1 (o + 2)) np a (M.1 (o + 3))) x nt 0 0 else -1) := by
  obtain ⟨hz1, hz2, hz3, hz4, hz5, hz6, hz7, hz8, hz9, hz10, hz11, hz12, hz13, hz14, hz15⟩ := zn8 ho
  obtain ⟨hnt, h10, hnp, h8, kd, tv, ha, h12, hts⟩ := id ok
  refine zCi_of J zm_X8_first [some (.ref (w.2.2 o)), some (.int x), none, none] (Nat.le_of_ble_eq_true rfl) rfl (fun g hg F X => ?_)
  subst hg
  generalize hV : (fun k => whoR (M.1 (o + 3)) (nI k) np) = V at X
  generalize hQ : firstR (rbM (M.1 o)) (M.1 (o + 1)) (M.1 (o + 2)) np a (M.1 (o + 3)) = Q at X
  generalize hr : firstL V Q x nt 0 0 = r at X
  have key : (0 ≤ x ∧ x < M.1 o 0) → ∀ (j k : Nat) (s : Int32) (M' : zM), k + j = nt → zgf o M M' → M'.1 (o + 8) = M.1 (o + 3) → M'.1 o 7 = -4 → firstL V Q x j k s = r → ZW w g 4 25 [some (.ref (w.2.2 o)), some (.int x), some (.int s), some (.int (nI k))] [] M' := by
    intro hx j
    induction j with
    | zero =>
      intro k s M' hkj hf h8a h7 hs
      have e : k = nt := by omega
      subst e
      have e0 := hf.2.2.1 0 (by decide) (by decide) (by decide)
      refine z_iload_n F dX8_first_25 rfl ?_
      refine z_aload_n F dX8_first_26 rfl ?_
      refine zg_X8_things F (by with_reducible assumption) fl_X8_69 dX8_first_27 ?_
      try simp only [e0, hnt]
      refine z_ic_ge (tgt := 111) F dX8_first_30 (by decide) (fun h_30 => ?_) (fun h_30 => absurd h_30 (nlt (Int32.le_refl _)))
      refine z_iload_n F dX8_first_111 rfl ?_
      refine z_iret F X dX8_first_112 ?_
      exact ⟨hf, by rw [if_pos hx]; exact hs⟩
    | succ j ih =>
      intro k s M' hkj hf h8a h7 hs
      have e0 := hf.2.2.1 0 (by decide) (by decide) (by decide)
      have e1 := hf.2.2.1 1 (by decide) (by decide) (by decide)
      have e3 := hf.2.1 (o + 3) (by omega) (by omega) (by omega) (by omega)
      have hVk : V k = whoR (M.1 (o + 3)) (nI k) np := by rw [← hV]
      rw [firstL] at hs
      have g8 : ∀ q v, (zs M' (o + 3) q v).1 (o + 8) = M.1 (o + 3) := fun q v => by rw [zs_off _ (by omega), h8a]
      have hR : ∀ v, (if M.1 (o + 3) 0 = -4 then 0 else M.1 (o + 3) 1) = v → (homeM (rbM (M.1 o)) (M.1 (o + 1)) (M.1 (o + 2)) np (-4) 0 (12 - a) (va_up (va_up (M.1 (o + 3)) 0 (nI k)) 1 v, -4)).1 0 = Q k := fun v hv => by
        rw [homeM_F _ _ _ _ _ (a := a) (by show va_up (va_up (M.1 (o + 3)) 0 (nI k)) 1 v 3 = nI a; rw [va_up_ne _ _ (by decide), va_up_ne _ _ (by decide)]; exact ha) (by omega), ← hQ, ← hv]
        rfl
      refine z_iload_n F dX8_first_25 rfl ?_
      refine z_aload_n F dX8_first_26 rfl ?_
      refine zg_X8_things F (by with_reducible assumption) fl_X8_69 dX8_first_27 ?_
      try simp only [e0, hnt, g8]
      refine z_ic_ge (tgt := 111) F dX8_first_30 (by decide) (fun h_30 => absurd h_30 (nle (nI_lt (by omega) (by omega)))) (fun h_30 => ?_)
      refine z_aload_n F dX8_first_33 rfl ?_
      refine z_iload_n F dX8_first_34 rfl ?_
      refine z_callVi F (c_X8_who J hk ho (np := np) (by rw [e1]; exact hnp) h8) zm_X8_who zv_X8_who ml_X8_95 (by with_reducible assumption) (by decide) rfl rfl rfl (Nat.le_of_ble_eq_true rfl) dX8_first_35 (by omega) (fun r_35 M_35 h_35 => ?_)
      obtain ⟨e_35, rfl⟩ := h_35
      replace e_35 := Eq.symm e_35
      subst e_35
      refine z_bipush (v := (-4)) F dX8_first_38 (by decide) ?_
      rw [e3]
      refine z_ic_ne (tgt := 105) F dX8_first_40 (by decide) (fun h_40 => ?_) (fun h_40 => ?_)
      · try simp only [e0, hnt, g8] at h_40
        refine z_iincc (c := 1) (lv' := [_, _, _, _]) F dX8_first_105 rfl (by decide) (by decide) rfl rfl ?_
        refine z_goto (tgt := 25) F dX8_first_108 (by decide) ?_
        rw [if_neg (fun q => h_40 (hVk.symm.trans q.1))] at hs
        rw [nI_1]
        exact ih (k + 1) _ M' (by omega) hf h8a h7 hs
      · try simp only [e0, hnt, g8] at h_40
        refine z_aload_n F dX8_first_43 rfl ?_
        refine zg_X8_now F (by with_reducible assumption) fl_X8_16 dX8_first_44 (fun hk_44 => ?_)
        refine z_iconst (v := 0) F dX8_first_47 (by decide) ?_
        refine z_iload_n F dX8_first_48 rfl ?_
        refine z_iast10n (q := 0) F (by with_reducible assumption) (by decide) (by rw [hz3]; omega) dX8_first_49 ?_
        refine z_aload_n F dX8_first_50 rfl ?_
        refine zg_X8_now F (by with_reducible assumption) fl_X8_16 dX8_first_51 (fun hk_51 => ?_)
        refine z_iconst (v := 1) F dX8_first_54 (by decide) ?_
        refine z_aload_n F dX8_first_55 rfl ?_
        refine zg_X8_aside F (by with_reducible assumption) fl_X8_31 dX8_first_56 (fun hk_56 => ?_)
        refine z_iconst (v := 0) F dX8_first_59 (by decide) ?_
        refine z_iald10n (q := 0) F (by with_reducible assumption) (by decide) (by rw [hz8]; omega) dX8_first_60 ?_
        try simp only [e0, hnt, g8]
        refine z_bipush (v := (-4)) F dX8_first_61 (by decide) ?_
        refine z_ic_ne (tgt := 70) F dX8_first_63 (by decide) (fun h_63 => ?_) (fun h_63 => ?_)
        · try simp only [e0, hnt, g8] at h_63
          refine z_aload_n F dX8_first_70 rfl ?_
          refine zg_X8_aside F (by with_reducible assumption) fl_X8_31 dX8_first_71 (fun hk_71 => ?_)
          refine z_iconst (v := 1) F dX8_first_74 (by decide) ?_
          refine z_iald10n (q := 1) F (by with_reducible assumption) (by decide) (by rw [hz8]; omega) dX8_first_75 ?_
          try simp only [e0, hnt, g8]
          refine z_iast10n (q := 1) F (by with_reducible assumption) (by decide) (by rw [hz3]; omega) dX8_first_76 ?_
          have hMi : zs (zs M' (o + 3) 0 (nI k)) (o + 3) 1 (M.1 (o + 3) 1) = za M' (o + 3) (va_up (va_up (M.1 (o + 3)) 0 (nI k)) 1 (M.1 (o + 3) 1)) := by
            simp only [zs_za, za_at, za_za]
            rw [e3]
          have hq := hR _ (if_neg h_63)
          rw [hMi]
          refine z_aload_n F dX8_first_77 rfl ?_
          refine z_callVv F (d_home_at J hk ho ok (hf.x.a (Or.inl rfl)) (by rw [za_at]; exact tv9_up1 (tv9_up0 tv (Or.inr ⟨k, by omega, rfl⟩)) 1 _ (Or.inl rfl)) (by rw [za_at, va_up_ne _ _ (by decide), va_up_ne _ _ (by decide)]; exact ha)) zm_X8_goesHome zv_X8_goesHome ml_X8_198 (by with_reducible assumption) (by decide) rfl rfl rfl (Nat.le_of_ble_eq_true rfl) dX8_first_78 (by omega) (fun M_78 h_78 => ?_)
          replace h_78 := Eq.symm h_78
          subst h_78
          rw [za_at, za_off _ (show o ≠ o + 3 by omega), h7, hf.2.2.2]
          refine z_iload_n F dX8_first_81 rfl ?_
          refine z_aload_n F dX8_first_82 rfl ?_
          refine zg_X8_now F (by with_reducible assumption) fl_X8_16 dX8_first_83 (fun hk_83 => ?_)
          refine z_iconst (v := 0) F dX8_first_86 (by decide) ?_
          refine z_iald10n (q := 0) F (by with_reducible assumption) (by decide) (by rw [hz3]; omega) dX8_first_87 ?_
          rw [zr_T, hq]
          refine z_iload_n F dX8_first_88 rfl ?_
          refine z_ic_ne (tgt := 98) F dX8_first_89 (by decide) (fun h_89 => ?_) (fun h_89 => ?_)
          · try simp only [e0, hnt, g8] at h_89
            refine z_iconst (v := 0) F dX8_first_98 (by decide) ?_
            refine z_ior F dX8_first_99 ?_
            refine z_istore_n (lv' := [_, _, _, _]) F dX8_first_100 (by decide) rfl rfl ?_
            refine z_aload_n F dX8_first_101 rfl ?_
            refine z_callVv F (c_X8_backs J hk ho) zm_X8_backs zv_X8_backs ml_X8_201 (by with_reducible assumption) (by decide) rfl rfl rfl (Nat.le_of_ble_eq_true rfl) dX8_first_102 (by omega) (fun M_102 h_102 => ?_)
            replace h_102 := Eq.symm h_102
            subst h_102
            refine z_iincc (c := 1) (lv' := [_, _, _, _]) F dX8_first_105 rfl (by decide) (by decide) rfl rfl ?_
            refine z_goto (tgt := 25) F dX8_first_108 (by decide) ?_
            rw [if_neg (fun q => h_89 q.2)] at hs
            rw [nI_1, Int32.or_zero]
            refine ih (k + 1) _ _ (by omega) (zgf.back (hf.x.a (Or.inl rfl)).r ?_) ?_ ?_ hs
            · rw [zr8, za_off _ (by omega), h8a]
            · rw [zs_off _ (by omega), zs_off _ (by omega), za_off _ (by omega), zr8, za_off _ (by omega), h8a]
            · rw [zs_at, va_up_ne _ _ (by decide), zs_at, va_up_self]
          · try simp only [e0, hnt, g8] at h_89
            refine z_iconst (v := 1) F dX8_first_92 (by decide) ?_
            refine z_iload_n F dX8_first_93 rfl ?_
            refine z_ishl F dX8_first_94 ?_
            refine z_goto (tgt := 99) F dX8_first_95 (by decide) ?_
            refine z_ior F dX8_first_99 ?_
            refine z_istore_n (lv' := [_, _, _, _]) F dX8_first_100 (by decide) rfl rfl ?_
            refine z_aload_n F dX8_first_101 rfl ?_
            refine z_callVv F (c_X8_backs J hk ho) zm_X8_backs zv_X8_backs ml_X8_201 (by with_reducible assumption) (by decide) rfl rfl rfl (Nat.le_of_ble_eq_true rfl) dX8_first_102 (by omega) (fun M_102 h_102 => ?_)
            replace h_102 := Eq.symm h_102
            subst h_102
            refine z_iincc (c := 1) (lv' := [_, _, _, _]) F dX8_first_105 rfl (by decide) (by decide) rfl rfl ?_
            refine z_goto (tgt := 25) F dX8_first_108 (by decide) ?_
            rw [if_pos ⟨hVk.trans h_40, h_89⟩] at hs
            rw [nI_1]
            refine ih (k + 1) _ _ (by omega) (zgf.back (hf.x.a (Or.inl rfl)).r ?_) ?_ ?_ hs
            · rw [zr8, za_off _ (by omega), h8a]
            · rw [zs_off _ (by omega), zs_off _ (by omega), za_off _ (by omega), zr8, za_off _ (by omega), h8a]
            · rw [zs_at, va_up_ne _ _ (by decide), zs_at, va_up_self]
        · try simp only [e0, hnt, g8] at h_63
          refine z_iconst (v := 0) F dX8_first_66 (by decide) ?_
          refine z_goto (tgt := 76) F dX8_first_67 (by decide) ?_
          refine z_iast10n (q := 1) F (by with_reducible assumption) (by decide) (by rw [hz3]; omega) dX8_first_76 ?_
          have hMi : zs (zs M' (o + 3) 0 (nI k)) (o + 3) 1 0 = za M' (o + 3) (va_up (va_up (M.1 (o + 3)) 0 (nI k)) 1 0) := by
            simp only [zs_za, za_at, za_za]
            rw [e3]
          have hq := hR _ (if_pos h_63)
          rw [hMi]
          refine z_aload_n F dX8_first_77 rfl ?_
          refine z_callVv F (d_home_at J hk ho ok (hf.x.a (Or.inl rfl)) (by rw [za_at]; exact tv9_up1 (tv9_up0 tv (Or.inr ⟨k, by omega, rfl⟩)) 1 _ (Or.inl rfl)) (by rw [za_at, va_up_ne _ _ (by decide), va_up_ne _ _ (by decide)]; exact ha)) zm_X8_goesHome zv_X8_goesHome ml_X8_198 (by with_reducible assumption) (by decide) rfl rfl rfl (Nat.le_of_ble_eq_true rfl) dX8_first_78 (by omega) (fun M_78 h_78 => ?_)
          replace h_78 := Eq.symm h_78
          subst h_78
          rw [za_at, za_off _ (show o ≠ o + 3 by omega), h7, hf.2.2.2]
          refine z_iload_n F dX8_first_81 rfl ?_
          refine z_aload_n F dX8_first_82 rfl ?_
          refine zg_X8_now F (by with_reducible assumption) fl_X8_16 dX8_first_83 (fun hk_83 => ?_)
          refine z_iconst (v := 0) F dX8_first_86 (by decide) ?_
          refine z_iald10n (q := 0) F (by with_reducible assumption) (by decide) (by rw [hz3]; omega) dX8_first_87 ?_
          rw [zr_T, hq]
          refine z_iload_n F dX8_first_88 rfl ?_
          refine z_ic_ne (tgt := 98) F dX8_first_89 (by decide) (fun h_89 => ?_) (fun h_89 => ?_)
          · try simp only [e0, hnt, g8] at h_89
            refine z_iconst (v := 0) F dX8_first_98 (by decide) ?_
            refine z_ior F dX8_first_99 ?_
            refine z_istore_n (lv' := [_, _, _, _]) F dX8_first_100 (by decide) rfl rfl ?_
            refine z_aload_n F dX8_first_101 rfl ?_
            refine z_callVv F (c_X8_backs J hk ho) zm_X8_backs zv_X8_backs ml_X8_201 (by with_reducible assumption) (by decide) rfl rfl rfl (Nat.le_of_ble_eq_true rfl) dX8_first_102 (by omega) (fun M_102 h_102 => ?_)
            replace h_102 := Eq.symm h_102
            subst h_102
            refine z_iincc (c := 1) (lv' := [_, _, _, _]) F dX8_first_105 rfl (by decide) (by decide) rfl rfl ?_
            refine z_goto (tgt := 25) F dX8_first_108 (by decide) ?_
            rw [if_neg (fun q => h_89 q.2)] at hs
            rw [nI_1, Int32.or_zero]
            refine ih (k + 1) _ _ (by omega) (zgf.back (hf.x.a (Or.inl rfl)).r ?_) ?_ ?_ hs
            · rw [zr8, za_off _ (by omega), h8a]
            · rw [zs_off _ (by omega), zs_off _ (by omega), za_off _ (by omega), zr8, za_off _ (by omega), h8a]
            · rw [zs_at, va_up_ne _ _ (by decide), zs_at, va_up_self]
          · try simp only [e0, hnt, g8] at h_89
            refine z_iconst (v := 1) F dX8_first_92 (by decide) ?_
            refine z_iload_n F dX8_first_93 rfl ?_
            refine z_ishl F dX8_first_94 ?_
            refine z_goto (tgt := 99) F dX8_first_95 (by decide) ?_
            refine z_ior F dX8_first_99 ?_
            refine z_istore_n (lv' := [_, _, _, _]) F dX8_first_100 (by decide) rfl rfl ?_
            refine z_aload_n F dX8_first_101 rfl ?_
            refine z_callVv F (c_X8_backs J hk ho) zm_X8_backs zv_X8_backs ml_X8_201 (by with_reducible assumption) (by decide) rfl rfl rfl (Nat.le_of_ble_eq_true rfl) dX8_first_102 (by omega) (fun M_102 h_102 => ?_)
            replace h_102 := Eq.symm h_102
            subst h_102
            refine z_iincc (c := 1) (lv' := [_, _, _, _]) F dX8_first_105 rfl (by decide) (by decide) rfl rfl ?_
            refine z_goto (tgt := 25) F dX8_first_108 (by decide) ?_
            rw [if_pos ⟨hVk.trans h_40, h_89⟩] at hs
            rw [nI_1]
            refine ih (k + 1) _ _ (by omega) (zgf.back (hf.x.a (Or.inl rfl)).r ?_) ?_ ?_ hs
            · rw [zr8, za_off _ (by omega), h8a]
            · rw [zs_off _ (by omega), zs_off _ (by omega), za_off _ (by omega), zr8, za_off _ (by omega), h8a]
            · rw [zs_at, va_up_ne _ _ (by decide), zs_at, va_up_self]
  refine z_aload_n F dX8_first_0 rfl ?_
  refine z_iload_n F dX8_first_1 rfl ?_
  refine z_i2l F dX8_first_2 ?_
  refine z_callVi F (d_X8_isThing J hk hnt h10) zm_X8_isThing zv_X8_isThing ml_X8_89 (by with_reducible assumption) (by decide) rfl rfl rfl (Nat.le_of_ble_eq_true rfl) dX8_first_3 (by omega) (fun r_3 M_3 h_3 => ?_)
  obtain ⟨e_3, rfl⟩ := h_3
  replace e_3 := Eq.symm e_3
  subst e_3
  refine z_if_ne (tgt := 11) F dX8_first_6 (by decide) (fun h_6 => ?_) (fun h_6 => ?_)
  · replace h_6 := bI_1.mp h_6
    refine z_aload_n F dX8_first_11 rfl ?_
    refine z_callVv F (c_X8_asides J hk ho) zm_X8_asides zv_X8_asides ml_X8_195 (by with_reducible assumption) (by decide) rfl rfl rfl (Nat.le_of_ble_eq_true rfl) dX8_first_12 (by omega) (fun M_12 h_12 => ?_)
    replace h_12 := Eq.symm h_12
    subst h_12
    refine z_aload_n F dX8_first_15 rfl ?_
    refine z_bipush (v := (-4)) F dX8_first_16 (by decide) ?_
    refine zp_X8_more F (by with_reducible assumption) fl_X8_186 dX8_first_18 ?_
    refine z_iconst (v := 0) F dX8_first_21 (by decide) ?_
    refine z_istore_n (lv' := [_, _, _, _]) F dX8_first_22 (by decide) rfl rfl ?_
    refine z_iconst (v := 0) F dX8_first_23 (by decide) ?_
    refine z_istore_n (lv' := [_, _, _, _]) F dX8_first_24 (by decide) rfl rfl ?_
    exact key h_6 nt 0 0 (asd M o) (by omega) (asd_f hts) (asd_8 M o) (asd_7 M o) hr
  · replace h_6 := bI_0.mp h_6
    refine z_iconst (v := (-1)) F dX8_first_9 (by decide) ?_
    refine z_iret F X dX8_first_10 ?_
    exact ⟨zgf.rf hts, (if_neg h_6).symm⟩
def chtL (W : Nat → Int32) (v : Int32) : Nat → Nat → Int32 × Int32 → Int32 × Int32
  | 0, _, s => s
  | j + 1, h, s => chtL W v j (h + 1) (if W h ≤ v ∧ s.2 < W h then (nI h, W h) else s)
def chtW (rb th pe : zF1) (np a : Nat) (T : zF1) (h : Nat) : Int32 := wrt th (T 0) - wrt th ((homeF (va_up rb 2 (nI h)) th pe np (12 - a) (T, -4)).1 0)
theorem zs_5o (M : zM) (o : Nat) (v : Int32) {k : Nat} (h : k ≠ 5) : (zs M o 5 v).1 o k = M.1 o k := by rw [zs_at, va_up_ne _ _ h]
theorem rOK_5 {M : zM} {o nt np a : Nat} (ok : rOK M o nt np a) (v : Int32) : rOK (zs M o 5 v) o nt np a := by
  unfold rOK at *
  rw [zs_5o _ _ _ (by decide), zs_5o _ _ _ (by decide), zs_5o _ _ _ (by decide), zs_off _ (by omega), zs_off _ (by omega)]
  exact ok
theorem rbM_5 (M : zM) (o : Nat) (v : Int32) : rbM ((zs M o 5 v).1 o) = va_up (rbM (M.1 o)) 2 v := by
  funext k
  rw [zs_at]
  unfold rbM va_up
  by_cases e : k = 2
  · subst e; rfl
  · rw [if_neg e]
    simp only [e, if_false]
    rfl
theorem zs_5_5 (M : zM) (o : Nat) (v u : Int32) : zs (zs M o 5 v) o 5 u = zs M o 5 u := by
  rw [zs_za, zs_at, zs_za, zs_za, za_za, bx_uu]
theorem zgf_5 {M M' : zM} {o : Nat} {v u : Int32} (h : zgf o (zs M o 5 v) M') : zgf o (zs M o 5 u) (zs M' o 5 u) := by
  refine ⟨h.1, fun b a1 a2 a3 a4 => ?_, fun k a1 a2 a3 => ?_, by rw [zs_5o _ _ _ (by decide)]; exact h.2.2.2⟩
  · rw [zs_off _ a1, zs_off _ a1, h.2.1 b a1 a2 a3 a4, zs_off _ a1]
  · by_cases e : k = 5
    · subst e; rw [zs_at, zs_at, va_up_self, va_up_self]
    · rw [zs_5o _ _ _ e, zs_5o _ _ _ e, h.2.2.1 k a1 a2 a3, zs_5o _ _ _ e]
theorem c_X8_cheated {l : Launch} {w : zE} (J : zJ w) {M : zM} {o nt np a : Nat} {v : Int32} (hk : zk o = 8) (ho : o = 138) (ok : rOK M o nt np a) : zCi l w yX8_cheated cX8_cheated 8 (some .int) 8 [.ref (w.2.2 o), .int v] M (fun r M2 => zgf o M M2 ∧ r = if v < -99 ∨ 99 < v then -1 else (chtL (chtW (rbM (M.1 o)) (M.1 (o + 1)) (M.1 (o + 2)) np a (M.1 (o + 3))) v 100 0 (-4, -1000)).1) := by
  refine zCi_of J zm_X8_cheated [some (.ref (w.2.2 o)), some (.int v), none, none, none, none, none, none] (Nat.le_of_ble_eq_true rfl) rfl (fun g hg F X => ?_)
  subst hg
  generalize hW : chtW (rbM (M.1 o)) (M.1 (o + 1)) (M.1 (o + 2)) np a (M.1 (o + 3)) = W at X
  generalize hr : (chtL W v 100 0 (-4, -1000)).1 = r at X
  have hlost : ∀ h, lostR (zs M o 5 (nI h)) o np a = W h := fun h => by
    unfold lostR hmR
    rw [rbM_5, zs_off _ (by omega), zs_off _ (by omega), zs_off _ (by omega), ← hW]
    rfl
  have key : ¬ (v < -99 ∨ 99 < v) → ∀ (j k : Nat) (s : Int32 × Int32) (x6 x7 : Option Value) (M' : zM) (u : Int32), k + j = 100 → zok [none, none, none, none, none, none, x6, x7] 6 = true → zok [none, none, none, none, none, none, x6, x7] 7 = true → zgf o (zs M o 5 u) M' → (chtL W v j k s).1 = r → ZW w g 8 32 [some (.ref (w.2.2 o)), some (.int v), some (.int (M.1 o 5)), some (.int s.1), some (.int s.2), some (.int (nI k)), x6, x7] [] M' := by
    intro hv j
    induction j with
    | zero =>
      intro k s x6 x7 M' u hkj h6 h7 hf hs
      have e : k = 100 := by omega
      subst e
      have hs2 : s.1 = r := hs
      subst hs2
      have e5 : zs M o 5 (M.1 o 5) = M := by rw [zs_za, va_up_id, za_self]
      refine z_iload F dX8_cheated_32 rfl ?_
      refine z_bipush (v := 100) F dX8_cheated_34 (by decide) ?_
      refine z_ic_ge (tgt := 103) F dX8_cheated_36 (by decide) (fun h_36 => ?_) (fun h_36 => absurd h_36 (by decide))
      refine z_aload_n F dX8_cheated_103 rfl ?_
      refine z_iload_n F dX8_cheated_104 rfl ?_
      refine zp_X8_heed F (by with_reducible assumption) fl_X8_60 dX8_cheated_105 ?_
      refine z_iload_n F dX8_cheated_108 rfl ?_
      refine z_iret F X dX8_cheated_109 ?_
      refine ⟨?_, (if_neg hv).symm⟩
      have q := zgf_5 (u := M.1 o 5) hf
      rw [e5] at q
      exact q
    | succ j ih =>
      intro k s x6 x7 M' u hkj h6 h7 hf hs
      rw [chtL] at hs
      have hf2 := zgf_5 (u := nI k) hf
      refine z_iload F dX8_cheated_32 rfl ?_
      refine z_bipush (v := 100) F dX8_cheated_34 (by decide) ?_
      refine z_ic_ge (tgt := 103) F dX8_cheated_36 (by decide) (fun h_36 => absurd h_36 (nle (nI_lt (b := 100) (by omega) (by decide)))) (fun h_36 => ?_)
      refine z_aload_n F dX8_cheated_39 rfl ?_
      refine z_iload F dX8_cheated_40 rfl ?_
      refine zp_X8_heed F (by with_reducible assumption) fl_X8_60 dX8_cheated_42 ?_
      refine z_aload_n F dX8_cheated_45 rfl ?_
      refine z_callVi F (c_X8_lost J hk ho ((rOK_5 ok (nI k)).fr hf2)) zm_X8_lost zv_X8_lost ml_X8_213 (by with_reducible assumption) (by decide) rfl rfl rfl (Nat.le_of_ble_eq_true rfl) dX8_cheated_46 (by omega) (fun r_46 M_46 h_46 => ?_)
      obtain ⟨f1, f2⟩ := h_46
      have f3 : lostR (zs M' o 5 (nI k)) o np a = W k := by
        rw [← hlost k]
        unfold lostR hmR
        rw [rbM_x hf2.x, hf2.2.1 (o + 1) (by omega) (by omega) (by omega) (by omega), hf2.2.1 (o + 2) (by omega) (by omega) (by omega) (by omega), hf2.2.1 (o + 3) (by omega) (by omega) (by omega) (by omega)]
      rw [f3] at f2
      subst f2
      have hf3 := hf2.tr f1
      refine z_istore (lv' := [_, _, _, _, _, _, _, _]) F dX8_cheated_49 (by decide) rfl rfl ?_
      refine z_iload F dX8_cheated_51 rfl ?_
      refine z_iload_n F dX8_cheated_53 rfl ?_
      refine z_ic_gt (tgt := 68) F dX8_cheated_54 (by decide) (fun h_54 => ?_) (fun h_54 => ?_)
      · refine z_iconst (v := 0) F dX8_cheated_68 (by decide) ?_
        refine z_istore (lv' := [_, _, _, _, _, _, _, _]) F dX8_cheated_69 (by decide) rfl rfl ?_
        refine z_iload F dX8_cheated_71 rfl ?_
        refine z_if_eq (tgt := 81) F dX8_cheated_73 (by decide) (fun h_73 => ?_) (fun h_73 => absurd h_73 (by decide))
        refine z_iload_n F dX8_cheated_81 rfl ?_
        refine z_istore_n (lv' := [_, _, _, _, _, _, _, _]) F dX8_cheated_82 (by decide) rfl rfl ?_
        refine z_iload F dX8_cheated_83 rfl ?_
        refine z_if_eq (tgt := 93) F dX8_cheated_85 (by decide) (fun h_85 => ?_) (fun h_85 => absurd h_85 (by decide))
        refine z_iload F dX8_cheated_93 rfl ?_
        refine z_istore (lv' := [_, _, _, _, _, _, _, _]) F dX8_cheated_95 (by decide) rfl rfl ?_
        refine z_iincc (c := 1) (lv' := [_, _, _, _, _, _, _, _]) F dX8_cheated_97 rfl (by decide) (by decide) rfl rfl ?_
        refine z_goto (tgt := 32) F dX8_cheated_100 (by decide) ?_
        rw [if_neg (fun q => absurd q.1 (Int32.not_le.mpr h_54))] at hs
        rw [nI_1]
        exact ih (k + 1) s _ _ _ (nI k) (by omega) rfl rfl hf3 hs
      · refine z_iload F dX8_cheated_57 rfl ?_
        refine z_iload F dX8_cheated_59 rfl ?_
        refine z_ic_le (tgt := 68) F dX8_cheated_61 (by decide) (fun h_61 => ?_) (fun h_61 => ?_)
        · refine z_iconst (v := 0) F dX8_cheated_68 (by decide) ?_
          refine z_istore (lv' := [_, _, _, _, _, _, _, _]) F dX8_cheated_69 (by decide) rfl rfl ?_
          refine z_iload F dX8_cheated_71 rfl ?_
          refine z_if_eq (tgt := 81) F dX8_cheated_73 (by decide) (fun h_73 => ?_) (fun h_73 => absurd h_73 (by decide))
          refine z_iload_n F dX8_cheated_81 rfl ?_
          refine z_istore_n (lv' := [_, _, _, _, _, _, _, _]) F dX8_cheated_82 (by decide) rfl rfl ?_
          refine z_iload F dX8_cheated_83 rfl ?_
          refine z_if_eq (tgt := 93) F dX8_cheated_85 (by decide) (fun h_85 => ?_) (fun h_85 => absurd h_85 (by decide))
          refine z_iload F dX8_cheated_93 rfl ?_
          refine z_istore (lv' := [_, _, _, _, _, _, _, _]) F dX8_cheated_95 (by decide) rfl rfl ?_
          refine z_iincc (c := 1) (lv' := [_, _, _, _, _, _, _, _]) F dX8_cheated_97 rfl (by decide) (by decide) rfl rfl ?_
          refine z_goto (tgt := 32) F dX8_cheated_100 (by decide) ?_
          rw [if_neg (fun q => absurd q.2 (Int32.not_lt.mpr h_61))] at hs
          rw [nI_1]
          exact ih (k + 1) s _ _ _ (nI k) (by omega) rfl rfl hf3 hs
        · refine z_iconst (v := 1) F dX8_cheated_64 (by decide) ?_
          refine z_goto (tgt := 69) F dX8_cheated_65 (by decide) ?_
          refine z_istore (lv' := [_, _, _, _, _, _, _, _]) F dX8_cheated_69 (by decide) rfl rfl ?_
          refine z_iload F dX8_cheated_71 rfl ?_
          refine z_if_eq (tgt := 81) F dX8_cheated_73 (by decide) (fun h_73 => absurd h_73 (by decide)) (fun h_73 => ?_)
          refine z_iload F dX8_cheated_76 rfl ?_
          refine z_goto (tgt := 82) F dX8_cheated_78 (by decide) ?_
          refine z_istore_n (lv' := [_, _, _, _, _, _, _, _]) F dX8_cheated_82 (by decide) rfl rfl ?_
          refine z_iload F dX8_cheated_83 rfl ?_
          refine z_if_eq (tgt := 93) F dX8_cheated_85 (by decide) (fun h_85 => absurd h_85 (by decide)) (fun h_85 => ?_)
          refine z_iload F dX8_cheated_88 rfl ?_
          refine z_goto (tgt := 95) F dX8_cheated_90 (by decide) ?_
          refine z_istore (lv' := [_, _, _, _, _, _, _, _]) F dX8_cheated_95 (by decide) rfl rfl ?_
          refine z_iincc (c := 1) (lv' := [_, _, _, _, _, _, _, _]) F dX8_cheated_97 rfl (by decide) (by decide) rfl rfl ?_
          refine z_goto (tgt := 32) F dX8_cheated_100 (by decide) ?_
          rw [if_pos ⟨h_54, h_61⟩] at hs
          rw [nI_1]
          exact ih (k + 1) (nI k, W k) _ _ _ (nI k) (by omega) rfl rfl hf3 hs
  refine z_iload_n F dX8_cheated_0 rfl ?_
  refine z_i2l F dX8_cheated_1 ?_
  refine z_ldc2 F dX8_cheated_2 cl_X8_211 ?_
  refine z_ldc2 F dX8_cheated_5 cl_X8_81 ?_
  refine z_callSi F (d_X8_in J (a := -99) (b := 99) (by decide) (by decide)) zm_X8_in zst_X8_in ml_X8_72 rfl rfl (Nat.le_of_ble_eq_true rfl) dX8_cheated_8 (by omega) (fun r_8 M_8 h_8 => ?_)
  obtain ⟨e_8, rfl⟩ := h_8
  replace e_8 := Eq.symm e_8
  subst e_8
  refine z_if_ne (tgt := 16) F dX8_cheated_11 (by decide) (fun h_11 => ?_) (fun h_11 => ?_)
  · replace h_11 := bI_1.mp h_11
    refine z_aload_n F dX8_cheated_16 rfl ?_
    refine zg_X8_heed F (by with_reducible assumption) fl_X8_60 dX8_cheated_17 ?_
    refine z_istore_n (lv' := [_, _, _, _, _, _, _, _]) F dX8_cheated_20 (by decide) rfl rfl ?_
    refine z_bipush (v := (-4)) F dX8_cheated_21 (by decide) ?_
    refine z_istore_n (lv' := [_, _, _, _, _, _, _, _]) F dX8_cheated_23 (by decide) rfl rfl ?_
    refine z_sipush (v := (-1000)) F dX8_cheated_24 (by decide) ?_
    refine z_istore (lv' := [_, _, _, _, _, _, _, _]) F dX8_cheated_27 (by decide) rfl rfl ?_
    refine z_iconst (v := 0) F dX8_cheated_29 (by decide) ?_
    refine z_istore (lv' := [_, _, _, _, _, _, _, _]) F dX8_cheated_30 (by decide) rfl rfl ?_
    refine key (by grind) 100 0 (-4, -1000) none none M (M.1 o 5) (by omega) rfl rfl ?_ hr
    rw [zs_za, va_up_id, za_self]
    exact zgf.rf ok.2.2.2.2.2.2.2.2
  · replace h_11 := bI_0.mp h_11
    refine z_iconst (v := (-1)) F dX8_cheated_14 (by decide) ?_
    refine z_iret F X dX8_cheated_15 ?_
    exact ⟨zgf.rf ok.2.2.2.2.2.2.2.2, (if_pos (by grind)).symm⟩
