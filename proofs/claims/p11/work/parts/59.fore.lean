theorem c_X8_go {l : Launch} {w : zE} (J : zJ w) {M : zM} {o nt np a u : Nat} (hk : zk o = 8) (ho : o = 138) (ok : rOK M o nt np a) (hu : M.1 o 20 = nI u) (hu8 : u ≤ 8) : zCi l w yX8_go cX8_go 2 (some .int) 6 [.ref (w.2.2 o)] M (fun r M2 => (a = 12 ∧ r = -2 ∧ M2 = M) ∨ (a < 12 ∧ ∃ rf, r = (passF (rbM (M.1 o)) (M.1 (o + 1)) (M.1 (o + 2)) np 1 (M.1 (o + 3), M.1 o 18)).1 4 - M.1 (o + 3) 4 ∧ M2 = zr (zs (zs (za M (o + 7) (notU (M.1 (o + 7)) (M.1 (o + 3)) u)) o 20 (nI (notN u))) o 7 (-4)) o (passF (rbM (M.1 o)) (M.1 (o + 1)) (M.1 (o + 2)) np 1 (M.1 (o + 3), M.1 o 18)).1 rf)) := by
  obtain ⟨hz1, hz2, hz3, hz4, hz5, hz6, hz7, hz8, hz9, hz10, hz11, hz12, hz13, hz14, hz15⟩ := zn8 ho
  obtain ⟨hnt, h10, hnp, h8, kd, tv, ha, h12, hts⟩ := id ok
  refine zCi_of J zm_X8_go [some (.ref (w.2.2 o)), none] (Nat.le_of_ble_eq_true rfl) rfl (fun g hg F X => ?_)
  subst hg
  have ez : ∀ b, b ≠ o → b ≠ o + 7 → ∀ f, (zs (za M (o + 7) f) o 20 (nI (notN u))).1 b = M.1 b := fun b h1 h2 f => by rw [zs_off _ h1, za_off _ h2]
  have eo : ∀ f, (zs (za M (o + 7) f) o 20 (nI (notN u))).1 o = va_up (M.1 o) 20 (nI (notN u)) := fun f => by rw [zs_at, za_off _ (by omega)]
  generalize hU : notU (M.1 (o + 7)) (M.1 (o + 3)) u = U at X
  have e3' : (zs (za M (o + 7) U) o 20 (nI (notN u))).1 (o + 3) = M.1 (o + 3) := ez _ (by omega) (by omega) _
  have e1 : (zs (zs (za M (o + 7) U) o 20 (nI (notN u))) o 7 (-4)).1 (o + 1) = M.1 (o + 1) := by rw [zs_off _ (by omega), ez _ (by omega) (by omega)]
  have e2 : (zs (zs (za M (o + 7) U) o 20 (nI (notN u))) o 7 (-4)).1 (o + 2) = M.1 (o + 2) := by rw [zs_off _ (by omega), ez _ (by omega) (by omega)]
  have e3 : (zs (zs (za M (o + 7) U) o 20 (nI (notN u))) o 7 (-4)).1 (o + 3) = M.1 (o + 3) := by rw [zs_off _ (by omega), ez _ (by omega) (by omega)]
  have e0 : ∀ k, k ≠ 7 → k ≠ 20 → (zs (zs (za M (o + 7) U) o 20 (nI (notN u))) o 7 (-4)).1 o k = M.1 o k := fun k h1 h2 => by rw [zs_at, va_up_ne _ _ h1, eo, va_up_ne _ _ h2]
  have e07 : (zs (zs (za M (o + 7) U) o 20 (nI (notN u))) o 7 (-4)).1 o 7 = -4 := by rw [zs_at, va_up_self]
  have er : rbM ((zs (zs (za M (o + 7) U) o 20 (nI (notN u))) o 7 (-4)).1 o) = rbM (M.1 o) := funext fun k => by
    unfold rbM
    rw [e0 0 (by decide) (by decide), e0 1 (by decide) (by decide), e0 5 (by decide) (by decide), e0 6 (by decide) (by decide)]
  have epass : passM (rbM (M.1 o)) (M.1 (o + 1)) (M.1 (o + 2)) np (-4) (coinF 0 (M.1 (o + 3) 3)) (M.1 (o + 3), M.1 o 18) = passF (rbM (M.1 o)) (M.1 (o + 1)) (M.1 (o + 2)) np 1 (M.1 (o + 3), M.1 o 18) := by
    rw [coin_0, passM_F _ _ _ _ _ ha h12]
  refine z_aload_n F dX8_go_0 rfl ?_
  refine zg_X8_now F (by with_reducible assumption) fl_X8_16 dX8_go_1 (fun hk_1 => ?_)
  refine z_iconst (v := 3) F dX8_go_4 (by decide) ?_
  refine z_iald10n (q := 3) F (by with_reducible assumption) (by decide) (by rw [hz3]; omega) dX8_go_5 ?_
  try simp only [ha, e3']
  refine z_bipush (v := 12) F dX8_go_6 (by decide) ?_
  refine z_ic_ne (tgt := 14) F dX8_go_8 (by decide) (fun h_8 => ?_) (fun h_8 => ?_)
  · try simp only [ha, e3'] at h_8
    refine z_aload_n F dX8_go_14 rfl ?_
    refine z_callVv F (c_X8_notes J hk ho hu hu8) zm_X8_notes zv_X8_notes ml_X8_189 (by with_reducible assumption) (by decide) rfl rfl rfl (Nat.le_of_ble_eq_true rfl) dX8_go_15 (by omega) (fun M_15 h_15 => ?_)
    replace h_15 := Eq.symm h_15
    subst h_15
    rw [hU]
    refine z_aload_n F dX8_go_18 rfl ?_
    refine zg_X8_now F (by with_reducible assumption) fl_X8_16 dX8_go_19 (fun hk_19 => ?_)
    refine z_iconst (v := 4) F dX8_go_22 (by decide) ?_
    refine z_iald10n (q := 4) F (by with_reducible assumption) (by decide) (by rw [hz3]; omega) dX8_go_23 ?_
    try simp only [ha, e3']
    refine z_istore_n (lv' := [_, _]) F dX8_go_24 (by decide) rfl rfl ?_
    refine z_aload_n F dX8_go_25 rfl ?_
    refine z_bipush (v := (-4)) F dX8_go_26 (by decide) ?_
    refine zp_X8_more F (by with_reducible assumption) fl_X8_186 dX8_go_28 ?_
    refine z_aload_n F dX8_go_31 rfl ?_
    refine z_callVv F (c_X8_goesOn J hk ho (by rw [e0 0 (by decide) (by decide)]; exact hnt) h10 (by rw [e0 1 (by decide) (by decide)]; exact hnp) h8 (by rw [e1]; exact kd) (by rw [e3]; exact tv)) zm_X8_goesOn zv_X8_goesOn ml_X8_192 (by with_reducible assumption) (by decide) rfl rfl rfl (Nat.le_of_ble_eq_true rfl) dX8_go_32 (by omega) (fun M_32 h_32 => ?_)
    replace h_32 := Eq.symm h_32
    subst h_32
    rw [e1, e2, e3, e07, e0 8 (by decide) (by decide), e0 18 (by decide) (by decide), er, hts, epass]
    refine z_aload_n F dX8_go_35 rfl ?_
    refine zg_X8_now F (by with_reducible assumption) fl_X8_16 dX8_go_36 (fun hk_36 => ?_)
    refine z_iconst (v := 4) F dX8_go_39 (by decide) ?_
    refine z_iald10n (q := 4) F (by with_reducible assumption) (by decide) (by rw [hz3]; omega) dX8_go_40 ?_
    rw [zr_T]
    refine z_iload_n F dX8_go_41 rfl ?_
    refine z_isub F dX8_go_42 ?_
    refine z_iret F X dX8_go_43 ?_
    refine Or.inr ⟨?_, _, rfl, rfl⟩
    have : a ≠ 12 := fun e => h_8 (by rw [e]; rfl)
    omega
  · try simp only [ha, e3'] at h_8
    refine z_bipush (v := (-2)) F dX8_go_11 (by decide) ?_
    refine z_iret F X dX8_go_13 ?_
    refine Or.inl ⟨(nI_eq (b := 12) (by omega) (by decide)).mp h_8, rfl, rfl⟩
theorem c_X8_glad {l : Launch} {w : zE} (J : zJ w) {M : zM} {o nt np a : Nat} {x : Int32} (hk : zk o = 8) (ho : o = 138) (ok : rOK M o nt np a) : zCi l w yX8_glad cX8_glad 2 (some .int) 4 [.ref (w.2.2 o), .int x] M (fun r M2 => M2 = M ∧ r = gldS (rbM (M.1 o)) (M.1 (o + 1)) (M.1 (o + 3)) x) := by
  obtain ⟨hz1, hz2, hz3, hz4, hz5, hz6, hz7, hz8, hz9, hz10, hz11, hz12, hz13, hz14, hz15⟩ := zn8 ho
  obtain ⟨hnt, h10, hnp, h8, kd, tv, ha, h12, hts⟩ := id ok
  have e0 : rbM (M.1 o) 0 = M.1 o 0 := rfl
  have ec : coinF (M.1 o 8) (M.1 (o + 3) 3) = 1 := by rw [hts, coin_0]
  have e5 : rbM (M.1 o) 2 = M.1 o 5 := rfl
  refine zCi_of J zm_X8_glad [some (.ref (w.2.2 o)), some (.int x)] (Nat.le_of_ble_eq_true rfl) rfl (fun g hg F X => ?_)
  subst hg
  unfold gldS at X
  rw [e0, e5] at X
  refine z_aload_n F dX8_glad_0 rfl ?_
  refine z_iload_n F dX8_glad_1 rfl ?_
  refine z_i2l F dX8_glad_2 ?_
  refine z_callVi F (d_X8_isThing J hk hnt h10) zm_X8_isThing zv_X8_isThing ml_X8_89 (by with_reducible assumption) (by decide) rfl rfl rfl (Nat.le_of_ble_eq_true rfl) dX8_glad_3 (by omega) (fun r_3 M_3 h_3 => ?_)
  obtain ⟨e_3, rfl⟩ := h_3
  replace e_3 := Eq.symm e_3
  subst e_3
  refine z_if_ne (tgt := 11) F dX8_glad_6 (by decide) (fun h_6 => ?_) (fun h_6 => ?_)
  · replace h_6 := bI_1.mp h_6
    refine z_aload_n F dX8_glad_11 rfl ?_
    refine zg_X8_now F (by with_reducible assumption) fl_X8_16 dX8_glad_12 (fun hk_12 => ?_)
    refine z_iconst (v := 0) F dX8_glad_15 (by decide) ?_
    refine z_iald10n (q := 0) F (by with_reducible assumption) (by decide) (by rw [hz3]; omega) dX8_glad_16 ?_
    refine z_bipush (v := (-4)) F dX8_glad_17 (by decide) ?_
    refine z_ic_eq (tgt := 32) F dX8_glad_19 (by decide) (fun h_19 => ?_) (fun h_19 => ?_)
    · refine z_bipush (v := (-2)) F dX8_glad_32 (by decide) ?_
      refine z_iret F X dX8_glad_34 ?_
      refine ⟨rfl, ?_⟩
      rw [if_pos h_6]
      first | exact (if_pos (Or.inl h_19)).symm | exact (if_pos (Or.inr h_29)).symm
    · refine z_aload_n F dX8_glad_22 rfl ?_
      refine zg_X8_now F (by with_reducible assumption) fl_X8_16 dX8_glad_23 (fun hk_23 => ?_)
      refine z_iconst (v := 0) F dX8_glad_26 (by decide) ?_
      refine z_iald10n (q := 0) F (by with_reducible assumption) (by decide) (by rw [hz3]; omega) dX8_glad_27 ?_
      refine z_iload_n F dX8_glad_28 rfl ?_
      refine z_ic_ne (tgt := 35) F dX8_glad_29 (by decide) (fun h_29 => ?_) (fun h_29 => ?_)
      · obtain ⟨j, hj, rfl⟩ := n_in (n := nt) (by rw [← hnt]; exact h_6) (by omega)
        obtain ⟨h, hh, a0⟩ : ∃ h, h < nt ∧ M.1 (o + 3) 0 = nI h := tv.1.resolve_left h_19
        refine z_aload_n F dX8_glad_35 rfl ?_
        refine z_iload_n F dX8_glad_36 rfl ?_
        refine z_callVi F (c_X8_isGlad J hk ho a0 (by omega) (by omega) kd tv.2.2) zm_X8_isGlad zv_X8_isGlad ml_X8_176 (by with_reducible assumption) (by decide) rfl rfl rfl (Nat.le_of_ble_eq_true rfl) dX8_glad_37 (by omega) (fun r_37 M_37 h_37 => ?_)
        obtain ⟨e_37, rfl⟩ := h_37
        replace e_37 := Eq.symm e_37
        subst e_37
        rw [ec]
        refine z_if_eq (tgt := 47) F dX8_glad_40 (by decide) (fun h_40 => ?_) (fun h_40 => ?_)
        · replace h_40 := bI_0.mp h_40
          refine z_iconst (v := 0) F dX8_glad_47 (by decide) ?_
          refine z_iret F X dX8_glad_48 ?_
          refine ⟨rfl, ?_⟩
          rw [if_pos h_6, if_neg (fun q => q.elim h_19 h_29)]
          exact bI_f h_40
        · replace h_40 := bI_1.mp h_40
          refine z_iconst (v := 1) F dX8_glad_43 (by decide) ?_
          refine z_goto (tgt := 48) F dX8_glad_44 (by decide) ?_
          refine z_iret F X dX8_glad_48 ?_
          refine ⟨rfl, ?_⟩
          rw [if_pos h_6, if_neg (fun q => q.elim h_19 h_29)]
          exact bI_t h_40
      · refine z_bipush (v := (-2)) F dX8_glad_32 (by decide) ?_
        refine z_iret F X dX8_glad_34 ?_
        refine ⟨rfl, ?_⟩
        rw [if_pos h_6]
        first | exact (if_pos (Or.inl h_19)).symm | exact (if_pos (Or.inr h_29)).symm
  · replace h_6 := bI_0.mp h_6
    refine z_iconst (v := (-1)) F dX8_glad_9 (by decide) ?_
    refine z_iret F X dX8_glad_10 ?_
    exact ⟨rfl, (if_neg h_6).symm⟩
def homR (M : zM) (o np a : Nat) (k : Int32) : Int32 := if k < 0 ∨ 2 < k then -1 else if k = 0 then (hmR M o np a).1 0 else if k = 1 then (hmR M o np a).1 4 - M.1 (o + 3) 4 else (hmR M o np a).2
/-- aside, and home -/
def asd (M : zM) (o : Nat) : zM := zs (za M (o + 8) (M.1 (o + 3))) o 7 (-4)
theorem asd_b (M : zM) {o b : Nat} (h : b ≠ o) (h8 : b ≠ o + 8) : (asd M o).1 b = M.1 b := by unfold asd; rw [zs_off _ h, za_off _ h8]
theorem asd_8 (M : zM) (o : Nat) : (asd M o).1 (o + 8) = M.1 (o + 3) := by unfold asd; rw [zs_off _ (by omega), za_at]
theorem asd_o (M : zM) {o k : Nat} (h : k ≠ 7) : (asd M o).1 o k = M.1 o k := by unfold asd; rw [zs_at, va_up_ne _ _ h, za_off _ (by omega)]
theorem asd_7 (M : zM) (o : Nat) : (asd M o).1 o 7 = -4 := by unfold asd; rw [zs_at, va_up_self]
theorem asd_x (M : zM) (o : Nat) : zgx o M (asd M o) := (zgx.rf.a (Or.inr (Or.inl rfl))).s (Or.inl rfl)
theorem d_goesHome {l : Launch} {w : zE} (J : zJ w) {M : zM} {o nt np a : Nat} (hk : zk o = 8) (ho : o = 138) (ok : rOK M o nt np a) : zCv l w yX8_goesHome cX8_goesHome 1 6 [.ref (w.2.2 o)] (asd M o) (fun M2 => M2 = zr (asd M o) o (hmR M o np a).1 (hmR M o np a).2) := by
  obtain ⟨hnt, h10, hnp, h8, kd, tv, ha, h12, hts⟩ := id ok
  refine zCv_post (fun M2 h => ?_) (c_X8_goesHome (nt := nt) (np := np) (a := a) J hk ho (by rw [asd_o _ (by decide)]; exact hnt) h10 (by rw [asd_o _ (by decide)]; exact hnp) h8 (by rw [asd_b _ (by omega) (by omega)]; exact kd) (by rw [asd_b _ (by omega) (by omega)]; exact tv) (by rw [asd_b _ (by omega) (by omega)]; exact ha) h12)
  rw [h, rbM_x (asd_x M o), asd_b _ (show o + 1 ≠ o by omega) (by omega), asd_b _ (show o + 2 ≠ o by omega) (by omega), asd_b _ (show o + 3 ≠ o by omega) (by omega), asd_7, asd_o _ (by decide), hts, homeM_F _ _ _ _ _ ha (by omega)]
  rfl
theorem hmR_tv {M : zM} {o nt np a : Nat} (ok : rOK M o nt np a) : tv9 nt (hmR M o np a).1 := by
  obtain ⟨hnt, h10, hnp, h8, kd, tv, ha, h12, hts⟩ := id ok
  exact hm_tv _ _ _ (by omega) (s := (M.1 (o + 3), -4)) ha (by omega) tv
theorem zr8 (M : zM) (o : Nat) (T : zF1) (rf : Int32) : (zr M o T rf).1 (o + 8) = M.1 (o + 8) := zr_off (by omega) (by omega)
theorem c_X8_home {l : Launch} {w : zE} (J : zJ w) {M : zM} {o nt np a : Nat} {k : Int32} (hk : zk o = 8) (ho : o = 138) (ok : rOK M o nt np a) : zCi l w yX8_home cX8_home 3 (some .int) 7 [.ref (w.2.2 o), .int k] M (fun r M2 => zgf o M M2 ∧ r = homR M o np a k) := by
  obtain ⟨hz1, hz2, hz3, hz4, hz5, hz6, hz7, hz8, hz9, hz10, hz11, hz12, hz13, hz14, hz15⟩ := zn8 ho
  refine zCi_of J zm_X8_home [some (.ref (w.2.2 o)), some (.int k), none] (Nat.le_of_ble_eq_true rfl) rfl (fun g hg F X => ?_)
  subst hg
  refine z_iload_n F dX8_home_0 rfl ?_
  refine z_i2l F dX8_home_1 ?_
  refine z_lconst (v := 0) F dX8_home_2 (by decide) ?_
  refine z_ldc2 F dX8_home_3 cl_X8_115 ?_
  refine z_callSi F (d_X8_in J (a := 0) (b := 2) (by decide) (by decide)) zm_X8_in zst_X8_in ml_X8_72 rfl rfl (Nat.le_of_ble_eq_true rfl) dX8_home_6 (by omega) (fun r_6 M_6 h_6 => ?_)
  obtain ⟨e_6, rfl⟩ := h_6
  replace e_6 := Eq.symm e_6
  subst e_6
  refine z_if_ne (tgt := 14) F dX8_home_9 (by decide) (fun h_9 => ?_) (fun h_9 => ?_)
  · replace h_9 := bI_1.mp h_9
    try simp only [zr_T, zr_rf, zr8, asd_8] at h_9
    refine z_aload_n F dX8_home_14 rfl ?_
    refine z_callVv F (c_X8_asides J hk ho) zm_X8_asides zv_X8_asides ml_X8_195 (by with_reducible assumption) (by decide) rfl rfl rfl (Nat.le_of_ble_eq_true rfl) dX8_home_15 (by omega) (fun M_15 h_15 => ?_)
    replace h_15 := Eq.symm h_15
    subst h_15
    refine z_aload_n F dX8_home_18 rfl ?_
    refine z_bipush (v := (-4)) F dX8_home_19 (by decide) ?_
    refine zp_X8_more F (by with_reducible assumption) fl_X8_186 dX8_home_21 ?_
    rw [show zs (za M (o + 8) (M.1 (o + 3))) o 7 (-4) = asd M o from rfl]
    refine z_aload_n F dX8_home_24 rfl ?_
    refine z_callVv F (d_goesHome J hk ho ok) zm_X8_goesHome zv_X8_goesHome ml_X8_198 (by with_reducible assumption) (by decide) rfl rfl rfl (Nat.le_of_ble_eq_true rfl) dX8_home_25 (by omega) (fun M_25 h_25 => ?_)
    replace h_25 := Eq.symm h_25
    subst h_25
    refine z_iload_n F dX8_home_28 rfl ?_
    refine z_if_ne (tgt := 41) F dX8_home_29 (by decide) (fun h_29 => ?_) (fun h_29 => ?_)
    · try simp only [zr_T, zr_rf, zr8, asd_8] at h_29
      refine z_iload_n F dX8_home_41 rfl ?_
      refine z_iconst (v := 1) F dX8_home_42 (by decide) ?_
      refine z_ic_ne (tgt := 62) F dX8_home_43 (by decide) (fun h_43 => ?_) (fun h_43 => ?_)
      · try simp only [zr_T, zr_rf, zr8, asd_8] at h_43
        refine z_aload_n F dX8_home_62 rfl ?_
        refine zg_X8_refused F (by with_reducible assumption) fl_X8_179 dX8_home_63 ?_
        try simp only [zr_T, zr_rf, zr8, asd_8]
        refine z_istore_n (lv' := [_, _, _]) F dX8_home_66 (by decide) rfl rfl ?_
        refine z_aload_n F dX8_home_67 rfl ?_
        refine z_callVv F (c_X8_backs J hk ho) zm_X8_backs zv_X8_backs ml_X8_201 (by with_reducible assumption) (by decide) rfl rfl rfl (Nat.le_of_ble_eq_true rfl) dX8_home_68 (by omega) (fun M_68 h_68 => ?_)
        replace h_68 := Eq.symm h_68
        subst h_68
        refine z_iload_n F dX8_home_71 rfl ?_
        refine z_iret F X dX8_home_72 ?_
        exact ⟨zgf.back (asd_x M o).r (by rw [zr8, asd_8]), by unfold homR; rw [if_neg (by grind), if_neg h_29, if_neg h_43]⟩
      · try simp only [zr_T, zr_rf, zr8, asd_8] at h_43
        refine z_aload_n F dX8_home_46 rfl ?_
        refine zg_X8_now F (by with_reducible assumption) fl_X8_16 dX8_home_47 (fun hk_47 => ?_)
        refine z_iconst (v := 4) F dX8_home_50 (by decide) ?_
        refine z_iald10n (q := 4) F (by with_reducible assumption) (by decide) (by rw [hz3]; omega) dX8_home_51 ?_
        try simp only [zr_T, zr_rf, zr8, asd_8]
        refine z_aload_n F dX8_home_52 rfl ?_
        refine zg_X8_aside F (by with_reducible assumption) fl_X8_31 dX8_home_53 (fun hk_53 => ?_)
        refine z_iconst (v := 4) F dX8_home_56 (by decide) ?_
        refine z_iald10n (q := 4) F (by with_reducible assumption) (by decide) (by rw [hz8]; omega) dX8_home_57 ?_
        try simp only [zr_T, zr_rf, zr8, asd_8]
        refine z_isub F dX8_home_58 ?_
        refine z_goto (tgt := 66) F dX8_home_59 (by decide) ?_
        refine z_istore_n (lv' := [_, _, _]) F dX8_home_66 (by decide) rfl rfl ?_
        refine z_aload_n F dX8_home_67 rfl ?_
        refine z_callVv F (c_X8_backs J hk ho) zm_X8_backs zv_X8_backs ml_X8_201 (by with_reducible assumption) (by decide) rfl rfl rfl (Nat.le_of_ble_eq_true rfl) dX8_home_68 (by omega) (fun M_68 h_68 => ?_)
        replace h_68 := Eq.symm h_68
        subst h_68
        refine z_iload_n F dX8_home_71 rfl ?_
        refine z_iret F X dX8_home_72 ?_
        exact ⟨zgf.back (asd_x M o).r (by rw [zr8, asd_8]), by unfold homR; rw [if_neg (by grind), if_neg h_29, if_pos h_43]⟩
    · try simp only [zr_T, zr_rf, zr8, asd_8] at h_29
      refine z_aload_n F dX8_home_32 rfl ?_
      refine zg_X8_now F (by with_reducible assumption) fl_X8_16 dX8_home_33 (fun hk_33 => ?_)
      refine z_iconst (v := 0) F dX8_home_36 (by decide) ?_
      refine z_iald10n (q := 0) F (by with_reducible assumption) (by decide) (by rw [hz3]; omega) dX8_home_37 ?_
      try simp only [zr_T, zr_rf, zr8, asd_8]
      refine z_goto (tgt := 66) F dX8_home_38 (by decide) ?_
      refine z_istore_n (lv' := [_, _, _]) F dX8_home_66 (by decide) rfl rfl ?_
      refine z_aload_n F dX8_home_67 rfl ?_
      refine z_callVv F (c_X8_backs J hk ho) zm_X8_backs zv_X8_backs ml_X8_201 (by with_reducible assumption) (by decide) rfl rfl rfl (Nat.le_of_ble_eq_true rfl) dX8_home_68 (by omega) (fun M_68 h_68 => ?_)
      replace h_68 := Eq.symm h_68
      subst h_68
      refine z_iload_n F dX8_home_71 rfl ?_
      refine z_iret F X dX8_home_72 ?_
      exact ⟨zgf.back (asd_x M o).r (by rw [zr8, asd_8]), by unfold homR; rw [if_neg (by grind), if_pos h_29]⟩
  · replace h_9 := bI_0.mp h_9
    try simp only [zr_T, zr_rf, zr8, asd_8] at h_9
    refine z_iconst (v := (-1)) F dX8_home_12 (by decide) ?_
    refine z_iret F X dX8_home_13 ?_
    exact ⟨zgf.rf ok.2.2.2.2.2.2.2.2, by unfold homR; rw [if_pos (by grind)]⟩
def lostR (M : zM) (o np a : Nat) : Int32 := wrt (M.1 (o + 1)) (M.1 (o + 3) 0) - wrt (M.1 (o + 1)) ((hmR M o np a).1 0)
theorem zr1 (M : zM) (o : Nat) (T : zF1) (rf : Int32) : (zr M o T rf).1 (o + 1) = M.1 (o + 1) := zr_off (by omega) (by omega)
theorem asd_1 (M : zM) (o : Nat) : (asd M o).1 (o + 1) = M.1 (o + 1) := asd_b M (by omega) (by omega)
theorem c_X8_lost {l : Launch} {w : zE} (J : zJ w) {M : zM} {o nt np a : Nat} (hk : zk o = 8) (ho : o = 138) (ok : rOK M o nt np a) : zCi l w yX8_lost cX8_lost 2 (some .int) 7 [.ref (w.2.2 o)] M (fun r M2 => zgf o M M2 ∧ r = lostR M o np a) := by
  obtain ⟨hz1, hz2, hz3, hz4, hz5, hz6, hz7, hz8, hz9, hz10, hz11, hz12, hz13, hz14, hz15⟩ := zn8 ho
  refine zCi_of J zm_X8_lost [some (.ref (w.2.2 o)), none] (Nat.le_of_ble_eq_true rfl) rfl (fun g hg F X => ?_)
  subst hg
  refine z_aload_n F dX8_lost_0 rfl ?_
  refine z_callVv F (c_X8_asides J hk ho) zm_X8_asides zv_X8_asides ml_X8_195 (by with_reducible assumption) (by decide) rfl rfl rfl (Nat.le_of_ble_eq_true rfl) dX8_lost_1 (by omega) (fun M_1 h_1 => ?_)
  replace h_1 := Eq.symm h_1
  subst h_1
  refine z_aload_n F dX8_lost_4 rfl ?_
  refine z_bipush (v := (-4)) F dX8_lost_5 (by decide) ?_
  refine zp_X8_more F (by with_reducible assumption) fl_X8_186 dX8_lost_7 ?_
  rw [show zs (za M (o + 8) (M.1 (o + 3))) o 7 (-4) = asd M o from rfl]
  refine z_aload_n F dX8_lost_10 rfl ?_
  refine z_callVv F (d_goesHome J hk ho ok) zm_X8_goesHome zv_X8_goesHome ml_X8_198 (by with_reducible assumption) (by decide) rfl rfl rfl (Nat.le_of_ble_eq_true rfl) dX8_lost_11 (by omega) (fun M_11 h_11 => ?_)
  replace h_11 := Eq.symm h_11
  subst h_11
  refine z_aload_n F dX8_lost_14 rfl ?_
  refine z_aload_n F dX8_lost_15 rfl ?_
  refine zg_X8_aside F (by with_reducible assumption) fl_X8_31 dX8_lost_16 (fun hk_16 => ?_)
  refine z_iconst (v := 0) F dX8_lost_19 (by decide) ?_
  refine z_iald10n (q := 0) F (by with_reducible assumption) (by decide) (by rw [hz8]; omega) dX8_lost_20 ?_
  try simp only [zr_T, zr_rf, zr8, asd_8]
  refine z_callVi F (c_X8_worth (nt := nt) J hk ho ok.2.2.2.2.2.1.1 ok.2.1) zm_X8_worth zv_X8_worth ml_X8_173 (by with_reducible assumption) (by decide) rfl rfl rfl (Nat.le_of_ble_eq_true rfl) dX8_lost_21 (by omega) (fun r_21 M_21 h_21 => ?_)
  obtain ⟨e_21, rfl⟩ := h_21
  replace e_21 := Eq.symm e_21
  subst e_21
  refine z_aload_n F dX8_lost_24 rfl ?_
  refine z_aload_n F dX8_lost_25 rfl ?_
  refine zg_X8_now F (by with_reducible assumption) fl_X8_16 dX8_lost_26 (fun hk_26 => ?_)
  refine z_iconst (v := 0) F dX8_lost_29 (by decide) ?_
  refine z_iald10n (q := 0) F (by with_reducible assumption) (by decide) (by rw [hz3]; omega) dX8_lost_30 ?_
  try simp only [zr_T, zr_rf, zr8, asd_8]
  refine z_callVi F (c_X8_worth (nt := nt) J hk ho (hmR_tv ok).1 ok.2.1) zm_X8_worth zv_X8_worth ml_X8_173 (by with_reducible assumption) (by decide) rfl rfl rfl (Nat.le_of_ble_eq_true rfl) dX8_lost_31 (by omega) (fun r_31 M_31 h_31 => ?_)
  obtain ⟨e_31, rfl⟩ := h_31
  replace e_31 := Eq.symm e_31
  subst e_31
  refine z_isub F dX8_lost_34 ?_
  refine z_istore_n (lv' := [_, _]) F dX8_lost_35 (by decide) rfl rfl ?_
  refine z_aload_n F dX8_lost_36 rfl ?_
  refine z_callVv F (c_X8_backs J hk ho) zm_X8_backs zv_X8_backs ml_X8_201 (by with_reducible assumption) (by decide) rfl rfl rfl (Nat.le_of_ble_eq_true rfl) dX8_lost_37 (by omega) (fun M_37 h_37 => ?_)
  replace h_37 := Eq.symm h_37
  subst h_37
  refine z_iload_n F dX8_lost_40 rfl ?_
  refine z_iret F X dX8_lost_41 ?_
  refine ⟨zgf.back (asd_x M o).r (by rw [zr8, asd_8]), ?_⟩
  rw [zr1, asd_1]
  rfl
