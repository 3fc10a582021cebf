/-! a film, the reference's, in general -/
theorem zr_zya (M : zM) (b : Nat) (f : Nat → Int64) (o : Nat) (T : zF1) (rf : Int32) : zr (zya M b f) o T rf = zya (zr M o T rf) b f := rfl
theorem passF_ok {nt : Nat} {s : zF1 × Int32} (h : tv9 nt s.1) (rb th pe : zF1) {np a : Nat} (h3 : s.1 3 = nI a) (ha : a ≤ 12) (hp : np ≤ 9) : tv9 nt (passF rb th pe np 1 s).1 := by
  rw [← passM_F rb th pe np 1 h3 ha]
  exact (pass_ok h rb th pe (-4) 1 hp).1
theorem d_goesOn_film {l : Launch} {w : zE} (J : zJ w) {M : zM} {o nt np a b : Nat} {T : zF1} {rf : Int32} {f : Nat → Int64} (hk : zk o = 8) (ho : o = 138) (ok : rOK M o nt np a) (tv : tv9 nt T) (h3 : T 3 = nI b) (hb : b ≤ 12) : zCv l w yX8_goesOn cX8_goesOn 3 5 [.ref (w.2.2 o)] (zya (zr (asd M o) o T rf) (o + 14) f) (fun M2 => M2 = zya (zr (asd M o) o (passF (rbM (M.1 o)) (M.1 (o + 1)) (M.1 (o + 2)) np 1 (T, rf)).1 (passF (rbM (M.1 o)) (M.1 (o + 1)) (M.1 (o + 2)) np 1 (T, rf)).2) (o + 14) f) := by
  obtain ⟨hnt, h10, hnp, h8, kd, _, ha, h12, hts⟩ := id ok
  have x : zgx o M (zr (asd M o) o T rf) := (asd_x M o).r
  have e1 : (zya (zr (asd M o) o T rf) (o + 14) f).1 (o + 1) = M.1 (o + 1) := x.2.1 (o + 1) (by omega) (by omega) (by omega) (by omega) (by omega)
  have e2 : (zya (zr (asd M o) o T rf) (o + 14) f).1 (o + 2) = M.1 (o + 2) := x.2.1 (o + 2) (by omega) (by omega) (by omega) (by omega) (by omega)
  have e3 : (zya (zr (asd M o) o T rf) (o + 14) f).1 (o + 3) = T := zr_T _ _ _ _
  have e7 : (zya (zr (asd M o) o T rf) (o + 14) f).1 o 7 = -4 := (zr_of _ _ _ _ (by decide)).trans (asd_7 M o)
  have e8 : (zya (zr (asd M o) o T rf) (o + 14) f).1 o 8 = 0 := ((zr_of _ _ _ _ (by decide)).trans (asd_o M (by decide))).trans hts
  have e18 : (zya (zr (asd M o) o T rf) (o + 14) f).1 o 18 = rf := zr_rf _ _ _ _
  have er : rbM ((zya (zr (asd M o) o T rf) (o + 14) f).1 o) = rbM (M.1 o) := (rbM_x x :)
  refine zCv_post (fun M2 h => ?_) (c_X8_goesOn (nt := nt) (np := np) J hk ho ((x.2.2 0 (by decide) (by decide) (by decide)).trans hnt) h10 ((x.2.2 1 (by decide) (by decide) (by decide)).trans hnp) h8 (by rw [e1]; exact kd) (by rw [e3]; exact tv))
  rw [er, e1, e2, e3, e7, e8, e18, coin_0, passM_F _ _ _ _ _ (a := b) h3 hb, zr_zya, zr_zr] at h
  exact h
theorem c_X8_film {l : Launch} {w : zE} (J : zJ w) {M : zM} {o nt np a : Nat} {x ln i : Int32} (hk : zk o = 8) (ho : o = 138) (ok : rOK M o nt np a) (hS : szOK (M.1 (o + 13))) : zCi l w yX8_film cX8_film 7 (some .int) 7 [.ref (w.2.2 o), .int x, .int ln, .int i] M (fun r M2 => (((x < 0 ∨ 3 < x) ∨ (ln < 0 ∨ 3 < ln)) ∧ r = -1 ∧ M2 = M) ∨ (¬ ((x < 0 ∨ 3 < x) ∨ (ln < 0 ∨ 3 < ln)) ∧ ∃ q, q < 4 ∧ x = nI q ∧ ((whyF (M.1 (o + 12) q) (M.1 (o + 13) q) ln i (nI (12 - a)) < 0 ∧ r = whyF (M.1 (o + 12) q) (M.1 (o + 13) q) ln i (nI (12 - a)) ∧ M2 = M) ∨ (¬ whyF (M.1 (o + 12) q) (M.1 (o + 13) q) ln i (nI (12 - a)) < 0 ∧ r = nI (12 - a) ∧ ∃ p, i = nI p ∧ p + (12 - a) ≤ 16 ∧ zgf o M (M2.1, M.2) ∧ M2.2 = va_up M.2 (o + 14) (filmL (rbM (M.1 o)) (M.1 (o + 1)) (M.1 (o + 2)) np (M.1 (o + 12) q) (12 - a) (16 * q + p) (M.1 (o + 3), M.1 o 18) (M.2 (o + 14))))))) := by
  obtain ⟨hz1, hz2, hz3, hz4, hz5, hz6, hz7, hz8, hz9, hz10, hz11, hz12, hz13, hz14, hz15⟩ := zn8 ho
  obtain ⟨hnt, h10, hnp, h8, kd, tv, ha, h12, hts⟩ := id ok
  have hsub : 12 - nI a = nI (12 - a) := pk_sub (a := 12) (b := a) h12
  have e3 : ∀ T rf f, (zya (zr (asd M o) o T rf) (o + 14) f).1 (o + 3) = T := fun T rf f => zr_T _ _ _ _
  have e12 : ∀ T rf f, (zya (zr (asd M o) o T rf) (o + 14) f).1 (o + 12) = M.1 (o + 12) := fun T rf f => (zr_off (by omega) (by omega)).trans (asd_b M (by omega) (by omega))
  have e8 : ∀ T rf f, (zya (zr (asd M o) o T rf) (o + 14) f).1 (o + 8) = M.1 (o + 3) := fun T rf f => (zr_off (by omega) (by omega)).trans (asd_8 M o)
  refine zCi_of J zm_X8_film [some (.ref (w.2.2 o)), some (.int x), some (.int ln), some (.int i), none, none, none] (Nat.le_of_ble_eq_true rfl) rfl (fun g hg F X => ?_)
  subst hg
  have key : ∀ (q p : Nat) (y : Int32) (R : Nat → Int64), q < 4 → p + (12 - a) ≤ 16 → (∀ M2, zgf o M (M2.1, M.2) → M2.2 = va_up M.2 (o + 14) R → ∀ lv, lv[4]? = some (some (.int (nI (12 - a)))) → ZW w g 7 96 lv [] M2) → ∀ (j k : Nat) (T : zF1) (rf : Int32) (f : Nat → Int64), k + j = 12 - a → tv9 nt T → T 3 = nI (a + k) → filmL (rbM (M.1 o)) (M.1 (o + 1)) (M.1 (o + 2)) np (M.1 (o + 12) q) j (16 * q + p + k) (T, rf) f = R → ZW w g 7 59 [some (.ref (w.2.2 o)), some (.int (nI q)), some (.int ln), some (.int (nI p)), some (.int (nI (12 - a))), some (.int y), some (.int (nI k))] [] (zya (zr (asd M o) o T rf) (o + 14) f) := by
    intro q p y R hq hp K j
    induction j with
    | zero =>
      intro k T rf f hkj tv3 h3 hR
      obtain rfl : k = 12 - a := by omega
      refine z_iload F dX8_film_59 rfl ?_
      refine z_iload F dX8_film_61 rfl ?_
      refine z_ic_ge (tgt := 92) F dX8_film_63 (by decide) (fun h_63 => ?_) (fun h_63 => absurd h_63 (nlt (Int32.le_refl _)))
      refine z_aload_n F dX8_film_92 rfl ?_
      refine z_callVv F (c_X8_backs J hk ho) zm_X8_backs zv_X8_backs ml_X8_201 (by with_reducible assumption) (by decide) rfl rfl rfl (Nat.le_of_ble_eq_true rfl) dX8_film_93 (by omega) (fun M_93 h_93 => ?_)
      replace h_93 := Eq.symm h_93
      subst h_93
      rw [e8]
      refine K _ ?_ ?_ _ rfl
      · have zb := zgf.back (M' := zr (asd M o) o T rf) ((asd_x M o).r) ((zr_off (by omega) (by omega)).trans (asd_8 M o))
        rw [show (zr (asd M o) o T rf).1 (o + 8) = M.1 (o + 3) from (zr_off (by omega) (by omega)).trans (asd_8 M o)] at zb
        exact ⟨rfl, zb.2⟩
      · show va_up M.2 (o + 14) f = _
        rw [← hR]
        rfl
    | succ j ih =>
      intro k T rf f hkj tv3 h3 hR
      refine z_iload F dX8_film_59 rfl ?_
      refine z_iload F dX8_film_61 rfl ?_
      refine z_ic_ge (tgt := 92) F dX8_film_63 (by decide) (fun h_63 => absurd h_63 (nle (nI_lt (by omega) (by omega)))) (fun h_63 => ?_)
      refine z_aload_n F dX8_film_66 rfl ?_
      refine z_callVv F (d_goesOn_film J hk ho ok tv3 h3 (by omega)) zm_X8_goesOn zv_X8_goesOn ml_X8_192 (by with_reducible assumption) (by decide) rfl rfl rfl (Nat.le_of_ble_eq_true rfl) dX8_film_67 (by omega) (fun M_67 h_67 => ?_)
      replace h_67 := Eq.symm h_67
      subst h_67
      refine z_aload_n F dX8_film_70 rfl ?_
      refine z_iload_n F dX8_film_71 rfl ?_
      refine z_iload_n F dX8_film_72 rfl ?_
      refine z_iload F dX8_film_73 rfl ?_
      refine z_iadd F dX8_film_75 ?_
      rw [nI_add]
      refine z_aload_n F dX8_film_76 rfl ?_
      refine zg_X8_now F (by with_reducible assumption) fl_X8_16 dX8_film_77 (fun hk_77 => ?_)
      refine z_iconst (v := 0) F dX8_film_80 (by decide) ?_
      refine z_iald10n (q := 0) F (by with_reducible assumption) (by decide) (by rw [hz3]; omega) dX8_film_81 ?_
      try simp only [e3]
      refine z_i2l F dX8_film_82 ?_
      refine z_callVv F (c_X8_puts J hk ho hq (by omega)) zm_X8_puts zv_X8_puts ml_X8_239 (by with_reducible assumption) (by decide) rfl rfl rfl (Nat.le_of_ble_eq_true rfl) dX8_film_83 (by omega) (fun M_83 h_83 => ?_)
      replace h_83 := Eq.symm h_83
      subst h_83
      refine z_iincc (c := 1) (lv' := [_, _, _, _, _, _, _]) F dX8_film_86 rfl (by decide) (by decide) rfl rfl ?_
      refine z_goto (tgt := 59) F dX8_film_89 (by decide) ?_
      rw [nI_1, zy_zya]
      simp only [e12]
      have hz : (zya (zr (asd M o) o (passF (rbM (M.1 o)) (M.1 (o + 1)) (M.1 (o + 2)) np 1 (T, rf)).1 (passF (rbM (M.1 o)) (M.1 (o + 1)) (M.1 (o + 2)) np 1 (T, rf)).2) (o + 14) f).2 (o + 14) = f := va_up_self _ _ _
      refine ih (k + 1) _ _ _ (by omega) (passF_ok (s := (T, rf)) tv3 _ _ _ (a := a + k) h3 (by omega) (by omega)) (by rw [passF_3]; show T 3 + 1 = _; rw [h3, nI_1, Nat.add_assoc]) ?_
      rw [filmL] at hR
      rw [← hR, show 16 * q + p + (k + 1) = 16 * q + p + k + 1 from rfl, show 16 * q + (p + k) = 16 * q + p + k from (Nat.add_assoc _ _ _).symm]
  refine z_iload_n F dX8_film_0 rfl ?_
  refine z_callSi F (c_X8_isSheet J) zm_X8_isSheet zst_X8_isSheet ml_X8_227 rfl rfl (Nat.le_of_ble_eq_true rfl) dX8_film_1 (by omega) (fun r_1 M_1 h_1 => ?_)
  obtain ⟨e_1, rfl⟩ := h_1
  replace e_1 := Eq.symm e_1
  subst e_1
  refine z_if_eq (tgt := 14) F dX8_film_4 (by decide) (fun h_4 => ?_) (fun h_4 => ?_)
  · replace h_4 := bI_0.mp h_4
    try simp only [ha] at h_4
    refine z_iconst (v := (-1)) F dX8_film_14 (by decide) ?_
    refine z_iret F X dX8_film_15 ?_
    exact Or.inl ⟨Or.inl (Classical.not_not.mp h_4), rfl, rfl⟩
  · replace h_4 := bI_1.mp h_4
    try simp only [ha] at h_4
    refine z_iload_n F dX8_film_7 rfl ?_
    refine z_callSi F (c_X8_isLane J) zm_X8_isLane zst_X8_isLane ml_X8_230 rfl rfl (Nat.le_of_ble_eq_true rfl) dX8_film_8 (by omega) (fun r_8 M_8 h_8 => ?_)
    obtain ⟨e_8, rfl⟩ := h_8
    replace e_8 := Eq.symm e_8
    subst e_8
    refine z_if_ne (tgt := 16) F dX8_film_11 (by decide) (fun h_11 => ?_) (fun h_11 => ?_)
    · replace h_11 := bI_1.mp h_11
      try simp only [ha] at h_11
      obtain ⟨q, hq, rfl⟩ := s4_in h_4
      refine z_bipush (v := 12) F dX8_film_16 (by decide) ?_
      refine z_aload_n F dX8_film_18 rfl ?_
      refine zg_X8_now F (by with_reducible assumption) fl_X8_16 dX8_film_19 (fun hk_19 => ?_)
      refine z_iconst (v := 3) F dX8_film_22 (by decide) ?_
      refine z_iald10n (q := 3) F (by with_reducible assumption) (by decide) (by rw [hz3]; omega) dX8_film_23 ?_
      try simp only [ha]
      refine z_isub F dX8_film_24 ?_
      rw [hsub]
      refine z_istore (lv' := [_, _, _, _, _, _, _]) F dX8_film_25 (by decide) rfl rfl ?_
      refine z_aload_n F dX8_film_27 rfl ?_
      refine z_iload_n F dX8_film_28 rfl ?_
      refine z_iload_n F dX8_film_29 rfl ?_
      refine z_iload_n F dX8_film_30 rfl ?_
      refine z_iload F dX8_film_31 rfl ?_
      refine z_callVi F (c_X8_why J hk ho hq) zm_X8_why zv_X8_why ml_X8_235 (by with_reducible assumption) (by decide) rfl rfl rfl (Nat.le_of_ble_eq_true rfl) dX8_film_33 (by omega) (fun r_33 M_33 h_33 => ?_)
      obtain ⟨e_33, rfl⟩ := h_33
      replace e_33 := Eq.symm e_33
      subst e_33
      refine z_istore (lv' := [_, _, _, _, _, _, _]) F dX8_film_36 (by decide) rfl rfl ?_
      refine z_iload F dX8_film_38 rfl ?_
      refine z_if_ge (tgt := 46) F dX8_film_40 (by decide) (fun h_40 => ?_) (fun h_40 => ?_)
      · try simp only [ha] at h_40
        have h40 := nlt h_40
        obtain ⟨L, hL, hB⟩ := hS q hq
        obtain ⟨p, rfl, haL⟩ := why_ok2 (by omega) hB hL h40
        refine z_aload_n F dX8_film_46 rfl ?_
        refine z_callVv F (c_X8_asides J hk ho) zm_X8_asides zv_X8_asides ml_X8_195 (by with_reducible assumption) (by decide) rfl rfl rfl (Nat.le_of_ble_eq_true rfl) dX8_film_47 (by omega) (fun M_47 h_47 => ?_)
        replace h_47 := Eq.symm h_47
        subst h_47
        refine z_aload_n F dX8_film_50 rfl ?_
        refine z_bipush (v := (-4)) F dX8_film_51 (by decide) ?_
        refine zp_X8_more F (by with_reducible assumption) fl_X8_186 dX8_film_53 ?_
        refine z_iconst (v := 0) F dX8_film_56 (by decide) ?_
        refine z_istore (lv' := [_, _, _, _, _, _, _]) F dX8_film_57 (by decide) rfl rfl ?_
        have k0 := key q p (whyF (M.1 (o + 12) q) (M.1 (o + 13) q) ln (nI p) (nI (12 - a))) _ hq (by omega) ?_ (12 - a) 0 (M.1 (o + 3)) (M.1 o 18) (M.2 (o + 14)) (by omega) tv ha rfl
        · have e9 : zya (zr (asd M o) o (M.1 (o + 3)) (M.1 o 18)) (o + 14) (M.2 (o + 14)) = asd M o := by
            have e4 := zr_self (asd M o) o
            rw [asd_b M (show o + 3 ≠ o by omega) (show o + 3 ≠ o + 8 by omega), asd_o M (show 18 ≠ 7 by decide)] at e4
            rw [e4]
            exact zya_self (asd M o) (o + 14)
          rw [e9] at k0
          exact k0
        · intro M2 hg h2 lv hlv
          refine z_iload F dX8_film_96 hlv ?_
          refine z_iret F X dX8_film_98 ?_
          exact Or.inr ⟨fun z => z.elim h_4 h_11, q, hq, rfl, Or.inr ⟨h40, rfl, p, rfl, by omega, hg, h2⟩⟩
      · try simp only [ha] at h_40
        refine z_iload F dX8_film_43 rfl ?_
        refine z_iret F X dX8_film_45 ?_
        exact Or.inr ⟨fun z => z.elim h_4 h_11, q, hq, rfl, Or.inl ⟨h_40, rfl, rfl⟩⟩
    · replace h_11 := bI_0.mp h_11
      try simp only [ha] at h_11
      refine z_iconst (v := (-1)) F dX8_film_14 (by decide) ?_
      refine z_iret F X dX8_film_15 ?_
      exact Or.inl ⟨Or.inr (Classical.not_not.mp h_11), rfl, rfl⟩
