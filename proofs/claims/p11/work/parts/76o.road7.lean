/-- nothing but the tape's own blocks differs -/
def ztg (M M' : zM) : Prop := M'.2 = M.2 ∧ ∀ b, (b < 69 ∨ b = 70 ∨ 87 ≤ b) → M'.1 b = M.1 b
theorem e_X7_road {l : Launch} {w : zE} (J : zJ w) {M : zM} {o len : Nat} (hk : zk o = 7) (ho : o = 0) (hl : M.1 (o + 69) 1 = nI len) (h120 : len ≤ 120) (hL : ltOK (M.1 (o + 69 + 1)) len) : zCi l w yX7_road cX7_road 2 (some .int) 7 [.ref (w.2.2 o)] M (fun r M2 =>
    ((roadF (M.1 (o + 69 + 1)) len (M.1 (o + 1 + 1 + 1)) (M.1 (o + 1 + 1 + 12)) (tT0 (M.1 (o + 1 + 15)))).1 = 0 ∧ r = -20 - nI (roadF (M.1 (o + 69 + 1)) len (M.1 (o + 1 + 1 + 1)) (M.1 (o + 1 + 1 + 12)) (tT0 (M.1 (o + 1 + 15)))).2.1 ∧ ztg M M2 ∧ M2.1 (o + 69) 1 = 0)
    ∨ (¬ (roadF (M.1 (o + 69 + 1)) len (M.1 (o + 1 + 1 + 1)) (M.1 (o + 1 + 1 + 12)) (tT0 (M.1 (o + 1 + 15)))).1 = 0 ∧ ∃ (M1 : zM) (S : zRd), S = (roadF (M.1 (o + 69 + 1)) len (M.1 (o + 1 + 1 + 1)) (M.1 (o + 1 + 1 + 12)) (tT0 (M.1 (o + 1 + 15)))).2.2 ∧ r = nI S.1 ∧ ztg M M1 ∧ M1.1 (o + 69) 1 = 0 ∧ M2 = zs (za (zrd M1 (o + 1 + 1) (va_up (va_up (M.1 (o + 1 + 1)) 0 (nI S.1)) 1 (nI S.2.2.1)) S.2.1 S.2.2.2.1) (o + 1 + 15) S.2.2.2.2) (o + 1) 3 0)) := by
  refine zCi_of J zm_X7_road [some (.ref (w.2.2 o)), none] (Nat.le_of_ble_eq_true rfl) rfl (fun g hg F X => ?_)
  subst hg
  generalize hR : roadF (M.1 (o + 69 + 1)) len (M.1 (o + 1 + 1 + 1)) (M.1 (o + 1 + 1 + 12)) (tT0 (M.1 (o + 1 + 15))) = R at X
  refine z_aload_n F dX7_road_0 rfl ?_
  refine zg_X7_tape F (by with_reducible assumption) fl_X7_22 dX7_road_1 (fun hk_1 => ?_)
  refine z_aload_n F dX7_road_4 rfl ?_
  refine zg_X7_now F (by with_reducible assumption) fl_X7_10 dX7_road_5 (fun hk_5 => ?_)
  refine z_callVi F (c_X3_readRoad J (by with_reducible assumption) (by with_reducible assumption) (by omega) (by omega) hl h120 hL) zm_X3_readRoad zv_X3_readRoad ml_X7_155 (by with_reducible assumption) (by decide) rfl rfl rfl (Nat.le_of_ble_eq_true rfl) dX7_road_8 (by omega) (fun r_8 M_8 h_8 => ?_)
  rw [hR] at h_8
  obtain ⟨rfl, S, hS, hS2⟩ := h_8
  have t1 : ztg M (zs M_8 (o + 69) 1 0) := ⟨hS.2.2.2.2.2.1, fun b q => by rw [zs_off _ (by omega)]; exact hS.2.2.2.2.2.2 b (by omega) (by omega) (by omega) (by omega) (by omega) (by omega)⟩
  have t2 : (zs M_8 (o + 69) 1 0).1 (o + 69) 1 = 0 := by rw [zs_at, va_up_self]
  have t3 : (zs M_8 (o + 69) 1 0).1 (o + 69) 2 = nI R.2.1 := by rw [zs_at, va_up_ne _ _ (by decide), hS.1, va_up_self]
  have t4 : (zs M_8 (o + 69) 1 0).1 (o + 69 + 2) = va_up (va_up (M.1 (o + 1 + 1)) 0 (nI S.1)) 1 (nI S.2.2.1) := by rw [zs_off _ (by omega), hS.2.1]
  have t5 : (zs M_8 (o + 69) 1 0).1 (o + 69 + 2 + 1) = S.2.1 := by rw [zs_off _ (by omega), hS.2.2.1]
  have t6 : (zs M_8 (o + 69) 1 0).1 (o + 69 + 2 + 12) = S.2.2.2.1 := by rw [zs_off _ (by omega), hS.2.2.2.1]
  have t7 : (zs M_8 (o + 69) 1 0).1 (o + 69 + 16) = S.2.2.2.2 := by rw [zs_off _ (by omega), hS.2.2.2.2.1]
  refine z_istore_n (lv' := [_, _]) F dX7_road_11 (by decide) rfl rfl ?_
  refine z_aload_n F dX7_road_12 rfl ?_
  refine zg_X7_tape F (by with_reducible assumption) fl_X7_22 dX7_road_13 (fun hk_13 => ?_)
  refine z_iconst (v := 0) F dX7_road_16 (by decide) ?_
  refine zp_X3_length F (by with_reducible assumption) fl_X7_148 dX7_road_17 ?_
  generalize zs M_8 (o + 69) 1 0 = M1 at t1 t2 t3 t4 t5 t6 t7 ⊢
  refine z_iload_n F dX7_road_20 rfl ?_
  refine z_if_ne (tgt := 35) F dX7_road_21 (by decide) (fun h_21 => ?_) (fun h_21 => ?_)
  · try simp only [t3] at h_21
    refine z_aload_n F dX7_road_35 rfl ?_
    refine zg_X7_now F (by with_reducible assumption) fl_X7_10 dX7_road_36 (fun hk_36 => ?_)
    refine zg_X6_road F (by with_reducible assumption) fl_X7_44 dX7_road_39 (fun hk_39 => ?_)
    refine z_aload_n F dX7_road_42 rfl ?_
    refine zg_X7_tape F (by with_reducible assumption) fl_X7_22 dX7_road_43 (fun hk_43 => ?_)
    refine zg_X3_road F (by with_reducible assumption) fl_X7_162 dX7_road_46 (fun hk_46 => ?_)
    refine z_callVv F (d_X1_setFrom J (by with_reducible assumption) (by with_reducible assumption) (by omega)) zm_X1_setFrom zv_X1_setFrom ml_X7_163 (by with_reducible assumption) (by decide) rfl rfl rfl (Nat.le_of_ble_eq_true rfl) dX7_road_49 (by omega) (fun M_49 h_49 => ?_)
    replace h_49 := Eq.symm h_49
    subst h_49
    rw [t4, t5, t6]
    have u1 : (zrd M1 (o + 1 + 1) (va_up (va_up (M.1 (o + 1 + 1)) 0 (nI S.1)) 1 (nI S.2.2.1)) S.2.1 S.2.2.2.1).1 (o + 69 + 16) = S.2.2.2.2 := by unfold zrd; rw [za_off _ (by omega), za_off _ (by omega), za_off _ (by omega), t7]
    have u2 : ∀ h, (zs (za (zrd M1 (o + 1 + 1) (va_up (va_up (M.1 (o + 1 + 1)) 0 (nI S.1)) 1 (nI S.2.2.1)) S.2.1 S.2.2.2.1) (o + 1 + 15) h) (o + 1) 3 0).1 (o + 1 + 1) 0 = nI S.1 := fun h => by unfold zrd; rw [zs_off _ (by omega), za_off _ (by omega), za_at]; rfl
    refine z_aload_n F dX7_road_52 rfl ?_
    refine zg_X7_now F (by with_reducible assumption) fl_X7_10 dX7_road_53 (fun hk_53 => ?_)
    refine zg_X6_trip F (by with_reducible assumption) fl_X7_83 dX7_road_56 (fun hk_56 => ?_)
    refine z_aload_n F dX7_road_59 rfl ?_
    refine zg_X7_tape F (by with_reducible assumption) fl_X7_22 dX7_road_60 (fun hk_60 => ?_)
    refine zg_X3_trip F (by with_reducible assumption) fl_X7_167 dX7_road_63 (fun hk_63 => ?_)
    refine z_callVv F (d_X5_setFrom J (by with_reducible assumption) (by with_reducible assumption) (by omega)) zm_X5_setFrom zv_X5_setFrom ml_X7_168 (by with_reducible assumption) (by decide) rfl rfl rfl (Nat.le_of_ble_eq_true rfl) dX7_road_66 (by omega) (fun M_66 h_66 => ?_)
    replace h_66 := Eq.symm h_66
    subst h_66
    rw [u1]
    refine z_aload_n F dX7_road_69 rfl ?_
    refine zg_X7_now F (by with_reducible assumption) fl_X7_10 dX7_road_70 (fun hk_70 => ?_)
    refine z_iconst (v := 0) F dX7_road_73 (by decide) ?_
    refine zp_X6_known F (by with_reducible assumption) fl_X7_54 dX7_road_74 ?_
    refine z_aload_n F dX7_road_77 rfl ?_
    refine zg_X7_now F (by with_reducible assumption) fl_X7_10 dX7_road_78 (fun hk_78 => ?_)
    refine zg_X6_road F (by with_reducible assumption) fl_X7_44 dX7_road_81 (fun hk_81 => ?_)
    refine zg_X1_thingCount F (by with_reducible assumption) fl_X7_48 dX7_road_84 ?_
    try simp only [t3]
    refine z_iret F X dX7_road_87 ?_
    rw [u2]
    exact Or.inr ⟨h_21, M1, S, hS2 h_21, rfl, t1, t2, rfl⟩
  · try simp only [t3] at h_21
    refine z_bipush (v := (-20)) F dX7_road_24 (by decide) ?_
    refine z_aload_n F dX7_road_26 rfl ?_
    refine zg_X7_tape F (by with_reducible assumption) fl_X7_22 dX7_road_27 (fun hk_27 => ?_)
    refine zg_X3_place F (by with_reducible assumption) fl_X7_159 dX7_road_30 ?_
    try simp only [t3]
    refine z_isub F dX7_road_33 ?_
    refine z_iret F X dX7_road_34 ?_
    exact Or.inl ⟨h_21, rfl, t1, t2⟩
