/-- what a film shows -/
def filmL (rb th pe : zF1) (np : Nat) (ln : Int32) : Nat → Nat → zF1 × Int32 → (Nat → Int64) → (Nat → Int64)
  | 0, _, _, f => f
  | j + 1, k, s, f => filmL rb th pe np ln j (k + 1) (passF rb th pe np 1 s) (va_up f k (putF ln ((passF rb th pe np 1 s).1 0).toInt64))
theorem c_X7_film {l : Launch} {w : zE} (J : zJ w) {M : zM} {o np a L : Nat} {x ln i : Int32} (hk : zk o = 7) (ho : o = 0) (ok : nowOK M (o + 1) np a) (hL : M.1 (o + 129 + 1 + 2 * x.toNatClampNeg) 2 = nI L) (h16 : L ≤ 16) : zCi l w yX7_film cX7_film 7 (some .int) 5 [.ref (w.2.2 o), .int x, .int ln, .int i] M (fun r M2 => rowS M o x ln i (nI (12 - a)) < 0 ∧ M2 = M ∧ r = rowS M o x ln i (nI (12 - a)) ∨ ¬ rowS M o x ln i (nI (12 - a)) < 0 ∧ r = nI (12 - a) ∧ (∀ b, (b < 87 ∨ 129 ≤ b) → M2.1 b = M.1 b) ∧ ∃ q, i = nI q ∧ q + (12 - a) ≤ 16 ∧ M2.2 = va_up M.2 (o + 129 + 1 + 2 * x.toNatClampNeg + 1) (filmL (M.1 (o + 1 + 1)) (M.1 (o + 1 + 1 + 1)) (M.1 (o + 1 + 1 + 12)) np ln (12 - a) q (M.1 (o + 1 + 15), -4) (M.2 (o + 129 + 1 + 2 * x.toNatClampNeg + 1)))) := by
  obtain ⟨o1, o2, o3, o4, o5⟩ := id ok
  have hsub : 12 - nI a = nI (12 - a) := pk_sub (a := 12) (b := a) o5
  refine zCi_of J zm_X7_film [some (.ref (w.2.2 o)), some (.int x), some (.int ln), some (.int i), none, none, none] (Nat.le_of_ble_eq_true rfl) rfl (fun g hg F X => ?_)
  subst hg
  generalize hs : o + 129 + 1 + 2 * x.toNatClampNeg = s at X
  have key : ∀ (q : Nat) (y : Int32), ¬ (x < 0 ∨ 3 < x) → zk s = 2 → M.1 s 1 = ln → i = nI q → q + (12 - a) ≤ 16 → ¬ rowS M o x ln i (nI (12 - a)) < 0 → ∀ (j k : Nat) (S : zF1 × Int32) (f : Nat → Int64) (M' : zM), k + j = q + (12 - a) → q ≤ k → (∀ b, (b < 87 ∨ 129 ≤ b) → M'.1 b = M.1 b) → M'.1 (o + 87 + 1) = M.1 (o + 1 + 1) → M'.1 (o + 87 + 1 + 1) = M.1 (o + 1 + 1 + 1) → M'.1 (o + 87 + 1 + 12) = M.1 (o + 1 + 1 + 12) → M'.1 (o + 87 + 15) = S.1 → M'.1 (o + 87 + 15 + 1) 0 = S.2 → M'.2 = va_up M.2 (s + 1) f → filmL (M.1 (o + 1 + 1)) (M.1 (o + 1 + 1 + 1)) (M.1 (o + 1 + 1 + 12)) np ln j k S f = filmL (M.1 (o + 1 + 1)) (M.1 (o + 1 + 1 + 1)) (M.1 (o + 1 + 1 + 12)) np ln (12 - a) q (M.1 (o + 1 + 15), -4) (M.2 (s + 1)) → ZW w g 7 48 [some (.ref (w.2.2 o)), some (.int x), some (.int ln), some (.int i), some (.int (nI (12 - a))), some (.int y), some (.int (nI k))] [] M' := by
    intro q y hx hk2 hln hiq hq16 hF j
    have e3 : i + nI (12 - a) = nI (q + (12 - a)) := by rw [hiq, nI_add]
    have hsb : s = o + 129 + 1 + 2 * x.toNatClampNeg := hs.symm
    induction j with
    | zero =>
      intro k S f M' hkj hqk m0 m1 m2 m3 m4 m5 m6 hse
      refine z_iload F dX7_film_48 rfl ?_
      refine z_iload_n F dX7_film_50 rfl ?_
      refine z_iload F dX7_film_51 rfl ?_
      refine z_iadd F dX7_film_53 ?_
      refine z_ic_ge (tgt := 104) F dX7_film_54 (by decide) (fun h_54 => ?_) (fun h_54 => absurd h_54 (by rw [e3, show k = q + (12 - a) by omega]; exact nlt (Int32.le_refl _)))
      refine z_iload F dX7_film_104 rfl ?_
      refine z_iret F X dX7_film_106 ?_
      exact Or.inr ⟨hF, rfl, m0, q, hiq, hq16, by rw [m6, ← hse]; rfl⟩
    | succ j ih =>
      intro k S f M' hkj hqk m0 m1 m2 m3 m4 m5 m6 hse
      refine z_iload F dX7_film_48 rfl ?_
      refine z_iload_n F dX7_film_50 rfl ?_
      refine z_iload F dX7_film_51 rfl ?_
      refine z_iadd F dX7_film_53 ?_
      refine z_ic_ge (tgt := 104) F dX7_film_54 (by decide) (fun h_54 => absurd h_54 (by rw [e3]; exact nle (nI_lt (by omega) (by omega)))) (fun h_54 => ?_)
      refine z_aload_n F dX7_film_57 rfl ?_
      refine zg_X7_foresight F (by with_reducible assumption) fl_X7_29 dX7_film_58 (fun hk_58 => ?_)
      refine zg_X0_road F (by with_reducible assumption) fl_X7_242 dX7_film_61 (fun hk_61 => ?_)
      refine z_aload_n F dX7_film_64 rfl ?_
      refine zg_X7_foresight F (by with_reducible assumption) fl_X7_29 dX7_film_65 (fun hk_65 => ?_)
      refine zg_X0_trip F (by with_reducible assumption) fl_X7_209 dX7_film_68 (fun hk_68 => ?_)
      refine z_iconst (v := 1) F dX7_film_71 (by decide) ?_
      refine z_callVi F (c_X1_pass J (by with_reducible assumption) (by with_reducible assumption) (by rw [m1]; exact o1) (np := np) (by rw [m1]; exact o2) (by omega)) zm_X1_pass zv_X1_pass ml_X7_174 (by with_reducible assumption) (by decide) rfl rfl rfl (Nat.le_of_ble_eq_true rfl) dX7_film_72 (by omega) (fun r_72 M_72 h_72 => ?_)
      obtain ⟨e_72, rfl⟩ := h_72
      replace e_72 := Eq.symm e_72
      subst e_72
      refine z_pop F dX7_film_75 rfl ?_
      rw [m1, m2, m3, m4, m5]
      refine z_aload_n F dX7_film_76 rfl ?_
      refine zg_X7_sheets F (by with_reducible assumption) fl_X7_35 dX7_film_77 (fun hk_77 => ?_)
      refine z_iload_n F dX7_film_80 rfl ?_
      refine z_aald15 F (by with_reducible assumption) (in4 hx) dX7_film_81 (fun hk_81 => ?_)
      refine z_iload F dX7_film_82 rfl ?_
      refine z_aload_n F dX7_film_84 rfl ?_
      refine zg_X7_foresight F (by with_reducible assumption) fl_X7_29 dX7_film_85 (fun hk_85 => ?_)
      refine zg_X0_trip F (by with_reducible assumption) fl_X7_209 dX7_film_88 (fun hk_88 => ?_)
      refine zg_X5_his F (by with_reducible assumption) fl_X7_123 dX7_film_91 ?_
      try simp only [zt_t]
      refine z_i2l F dX7_film_94 ?_
      refine z_callVv F (c_X2_put J (by with_reducible assumption) (by omega)) zm_X2_put zv_X2_put ml_X7_243 (by with_reducible assumption) (by decide) rfl rfl rfl (Nat.le_of_ble_eq_true rfl) dX7_film_95 (by omega) (fun M_95 h_95 => ?_)
      replace h_95 := Eq.symm h_95
      subst h_95
      refine z_iincc (c := 1) (lv' := [_, _, _, _, _, _, _]) F dX7_film_98 rfl (by decide) (by decide) rfl rfl ?_
      refine z_goto (tgt := 48) F dX7_film_101 (by decide) ?_
      rw [nI_1]
      rw [hs]
      have g1 : (zt M' (o + 87 + 15) (passF (M.1 (o + 1 + 1)) (M.1 (o + 1 + 1 + 1)) (M.1 (o + 1 + 1 + 12)) np 1 (S.1, S.2)).1 (passF (M.1 (o + 1 + 1)) (M.1 (o + 1 + 1 + 1)) (M.1 (o + 1 + 1 + 12)) np 1 (S.1, S.2)).2).1 s 1 = ln := by rw [zt_off (by omega) (by omega), m0 s (by omega)]; exact hln
      rw [g1]
      refine ih (k + 1) (passF (M.1 (o + 1 + 1)) (M.1 (o + 1 + 1 + 1)) (M.1 (o + 1 + 1 + 12)) np 1 S) _ _ (by omega) (by omega) (fun b hb => ?_) ?_ ?_ ?_ ?_ ?_ ?_ hse
      · exact (zt_off (by omega) (by omega)).trans (m0 b hb)
      · exact (zt_off (by omega) (by omega)).trans m1
      · exact (zt_off (by omega) (by omega)).trans m2
      · exact (zt_off (by omega) (by omega)).trans m3
      · exact zt_t _ _ _ _
      · exact (congrFun (zt_r _ _ _ _) 0).trans (va_up_self _ _ _)
      · show va_up M'.2 (s + 1) (va_up (M'.2 (s + 1)) k _) = _
        rw [m6, va_up_self, bx_uu]
  refine z_bipush (v := 12) F dX7_film_0 (by decide) ?_
  refine z_aload_n F dX7_film_2 rfl ?_
  refine zg_X7_now F (by with_reducible assumption) fl_X7_10 dX7_film_3 (fun hk_3 => ?_)
  refine zg_X6_trip F (by with_reducible assumption) fl_X7_83 dX7_film_6 (fun hk_6 => ?_)
  refine zg_X5_ahead F (by with_reducible assumption) fl_X7_130 dX7_film_9 ?_
  try simp only [o4]
  refine z_isub F dX7_film_12 ?_
  rw [hsub]
  refine z_istore (lv' := [_, _, _, _, _, _, _]) F dX7_film_13 (by decide) rfl rfl ?_
  refine z_aload_n F dX7_film_15 rfl ?_
  refine z_iload_n F dX7_film_16 rfl ?_
  refine z_iload_n F dX7_film_17 rfl ?_
  refine z_iload_n F dX7_film_18 rfl ?_
  refine z_iload F dX7_film_19 rfl ?_
  refine z_callVi F (c_X7_rowFault J hk) zm_X7_rowFault zv_X7_rowFault ml_X7_229 (by with_reducible assumption) (by decide) rfl rfl rfl (Nat.le_of_ble_eq_true rfl) dX7_film_21 (by omega) (fun r_21 M_21 h_21 => ?_)
  obtain ⟨e_21, rfl⟩ := h_21
  replace e_21 := Eq.symm e_21
  subst e_21
  refine z_istore (lv' := [_, _, _, _, _, _, _]) F dX7_film_24 (by decide) rfl rfl ?_
  refine z_iload F dX7_film_26 rfl ?_
  refine z_if_ge (tgt := 34) F dX7_film_28 (by decide) (fun h_28 => ?_) (fun h_28 => ?_)
  · try simp only [o4] at h_28
    refine z_aload_n F dX7_film_34 rfl ?_
    refine zg_X7_foresight F (by with_reducible assumption) fl_X7_29 dX7_film_35 (fun hk_35 => ?_)
    refine z_aload_n F dX7_film_38 rfl ?_
    refine zg_X7_now F (by with_reducible assumption) fl_X7_10 dX7_film_39 (fun hk_39 => ?_)
    refine z_callVv F (c_X0_begin J (by with_reducible assumption) (by with_reducible assumption) (by omega) (by omega)) zm_X0_begin zv_X0_begin ml_X7_239 (by with_reducible assumption) (by decide) rfl rfl rfl (Nat.le_of_ble_eq_true rfl) dX7_film_42 (by omega) (fun M_42 h_42 => ?_)
    replace h_42 := Eq.symm h_42
    subst h_42
    refine z_iload_n F dX7_film_45 rfl ?_
    refine z_istore (lv' := [_, _, _, _, _, _, _]) F dX7_film_46 (by decide) rfl rfl ?_
    obtain ⟨r1, r2, r3, r4, r5, r6, r7, r8, r9⟩ := rowS_ok (nlt h_28)
    obtain ⟨q, k, rfl, e6, e7⟩ := rng_n hL h16 r5 r6 r7 r8
    have e8 : 12 - a = k := (nI_eq (by omega) (by omega)).mp e6
    have z15 := (zkf7 o (zk_i hk (by decide)) hk).2.2.2.2
    have zx := zkf15 (o + 129) (zk_i z15 (by decide)) z15 x.toNatClampNeg (Nat.not_le.mp fun q => in4 r1 (Or.inr q))
    rw [hs] at zx
    refine key q _ r1 zx (by rw [← hs]; exact r4) rfl (by omega) (nlt h_28) (12 - a) q (M.1 (o + 1 + 15), -4) (M.2 (s + 1)) _ rfl (by omega) (fun b hb => ?_) (zbeg_rb _ _ _) (zbeg_th _ _ _) (zbeg_pe _ _ _) (zbeg_T _ _ _) (zbeg_r _ _ _) ?_ rfl
    · exact zbeg_off M (by omega)
    · show M.2 = _
      exact (va_up_id M.2 (s + 1)).symm
  · try simp only [o4] at h_28
    refine z_iload F dX7_film_31 rfl ?_
    refine z_iret F X dX7_film_33 ?_
    exact Or.inl ⟨h_28, rfl, rfl⟩
/-- whether so many items can be dealt -/
def dealL (f : Nat → Int64) (nt : Int32) : Nat → Nat → Int32 → Bool
  | 0, _, _ => true
  | j + 1, k, d => if f k < 0 then dealL f nt j (k + 1) d else if nt.toInt64 ≤ f k then false else if d &&& ((1 : Int32) <<< ((f k).toInt32 &&& 31)) = 0 then dealL f nt j (k + 1) (d ||| ((1 : Int32) <<< ((f k).toInt32 &&& 31))) else false
theorem c_X7_canDeal {l : Launch} {w : zE} (J : zJ w) {M : zM} {o s a np : Nat} (hk : zk o = 7) (hs : zk s = 14) (hz : zn s = 16) (h16 : a + np ≤ 16) : zCi l w yX7_canDeal cX7_canDeal 7 (some .boolean) 2 [.ref (w.2.2 o), .ref (w.2.2 s), .int (nI a), .int (nI np)] M (fun r M2 => M2 = M ∧ r = bI (dealL (M.2 s) (M.1 (o + 1 + 1) 0) np a (if 0 ≤ M.1 (o + 1 + 15) 0 ∧ M.1 (o + 1 + 15) 0 < M.1 (o + 1 + 1) 0 then (1 : Int32) <<< (M.1 (o + 1 + 15) 0 &&& 31) else 0) = true)) := by
  refine zCi_of J zm_X7_canDeal [some (.ref (w.2.2 o)), some (.ref (w.2.2 s)), some (.int (nI a)), some (.int (nI np)), none, none, none] (Nat.le_of_ble_eq_true rfl) rfl (fun g hg F X => ?_)
  subst hg
  generalize hD : (if 0 ≤ M.1 (o + 1 + 15) 0 ∧ M.1 (o + 1 + 15) 0 < M.1 (o + 1 + 1) 0 then (1 : Int32) <<< (M.1 (o + 1 + 15) 0 &&& 31) else 0) = D0 at X
  generalize hR : dealL (M.2 s) (M.1 (o + 1 + 1) 0) np a D0 = R at X
  have key : ∀ (j k : Nat) (d : Int32) (x6 : Option Value), k + j = a + np → a ≤ k → zok [none, none, none, none, none, none, x6] 6 = true → dealL (M.2 s) (M.1 (o + 1 + 1) 0) j k d = R → ZW w g 7 44 [some (.ref (w.2.2 o)), some (.ref (w.2.2 s)), some (.int (nI a)), some (.int (nI np)), some (.int d), some (.int (nI k)), x6] [] M := by
    intro j
    induction j with
    | zero =>
      intro k d x6 hkj hak hok hse
      refine z_iload F dX7_canDeal_44 rfl ?_
      refine z_iload_n F dX7_canDeal_46 rfl ?_
      refine z_iload_n F dX7_canDeal_47 rfl ?_
      refine z_iadd F dX7_canDeal_48 ?_
      refine z_ic_ge (tgt := 117) F dX7_canDeal_49 (by decide) (fun h_49 => ?_) (fun h_49 => absurd h_49 (by rw [nI_add, show k = a + np by omega]; exact nlt (Int32.le_refl _)))
      refine z_iconst (v := 1) F dX7_canDeal_117 (by decide) ?_
      refine z_zret F X dX7_canDeal_118 (by decide) ?_
      exact ⟨rfl, bI_t hse.symm⟩
    | succ j ih =>
      intro k d x6 hkj hak hok hse
      have c0 : (nI k).toNatClampNeg = k := nI_clamp (by omega)
      rw [dealL] at hse
      refine z_iload F dX7_canDeal_44 rfl ?_
      refine z_iload_n F dX7_canDeal_46 rfl ?_
      refine z_iload_n F dX7_canDeal_47 rfl ?_
      refine z_iadd F dX7_canDeal_48 ?_
      refine z_ic_ge (tgt := 117) F dX7_canDeal_49 (by decide) (fun h_49 => absurd h_49 (by rw [nI_add]; exact nle (nI_lt (by omega) (by omega)))) (fun h_49 => ?_)
      refine z_aload_n F dX7_canDeal_52 rfl ?_
      refine z_iload F dX7_canDeal_53 rfl ?_
      refine z_lald14 F (by with_reducible assumption) (by rw [hz]; exact vp_in_nI (by omega) (by omega)) dX7_canDeal_55 ?_
      try simp only [c0, lg_cmp_ge, lg_cmp_lt]
      refine z_lconst (v := 0) F dX7_canDeal_56 (by decide) ?_
      refine z_lcmp F dX7_canDeal_57 ?_
      refine z_if_ge (tgt := 64) F dX7_canDeal_58 (by decide) (fun h_58 => ?_) (fun h_58 => ?_)
      · try simp only [c0, lg_cmp_ge, lg_cmp_lt] at h_58
        refine z_aload_n F dX7_canDeal_64 rfl ?_
        refine z_iload F dX7_canDeal_65 rfl ?_
        refine z_lald14 F (by with_reducible assumption) (by rw [hz]; exact vp_in_nI (by omega) (by omega)) dX7_canDeal_67 ?_
        try simp only [c0, lg_cmp_ge, lg_cmp_lt]
        refine z_aload_n F dX7_canDeal_68 rfl ?_
        refine zg_X7_now F (by with_reducible assumption) fl_X7_10 dX7_canDeal_69 (fun hk_69 => ?_)
        refine zg_X6_road F (by with_reducible assumption) fl_X7_44 dX7_canDeal_72 (fun hk_72 => ?_)
        refine zg_X1_thingCount F (by with_reducible assumption) fl_X7_48 dX7_canDeal_75 ?_
        try simp only [c0, lg_cmp_ge, lg_cmp_lt]
        refine z_i2l F dX7_canDeal_78 ?_
        refine z_lcmp F dX7_canDeal_79 ?_
        refine z_if_lt (tgt := 85) F dX7_canDeal_80 (by decide) (fun h_80 => ?_) (fun h_80 => ?_)
        · try simp only [c0, lg_cmp_ge, lg_cmp_lt] at h_80
          refine z_iconst (v := 1) F dX7_canDeal_85 (by decide) ?_
          refine z_aload_n F dX7_canDeal_86 rfl ?_
          refine z_iload F dX7_canDeal_87 rfl ?_
          refine z_lald14 F (by with_reducible assumption) (by rw [hz]; exact vp_in_nI (by omega) (by omega)) dX7_canDeal_89 ?_
          try simp only [c0, lg_cmp_ge, lg_cmp_lt]
          refine z_l2i F dX7_canDeal_90 ?_
          refine z_ishl F dX7_canDeal_91 ?_
          refine z_istore (lv' := [_, _, _, _, _, _, _]) F dX7_canDeal_92 (by decide) rfl rfl ?_
          refine z_iload F dX7_canDeal_94 rfl ?_
          refine z_iload F dX7_canDeal_96 rfl ?_
          refine z_iand F dX7_canDeal_98 ?_
          refine z_if_eq (tgt := 104) F dX7_canDeal_99 (by decide) (fun h_99 => ?_) (fun h_99 => ?_)
          · try simp only [c0, lg_cmp_ge, lg_cmp_lt] at h_99
            refine z_iload F dX7_canDeal_104 rfl ?_
            refine z_iload F dX7_canDeal_106 rfl ?_
            refine z_ior F dX7_canDeal_108 ?_
            refine z_istore (lv' := [_, _, _, _, _, _, _]) F dX7_canDeal_109 (by decide) rfl rfl ?_
            refine z_iincc (c := 1) (lv' := [_, _, _, _, _, _, _]) F dX7_canDeal_111 rfl (by decide) (by decide) rfl rfl ?_
            refine z_goto (tgt := 44) F dX7_canDeal_114 (by decide) ?_
            rw [nI_1]
            rw [if_neg (Int64.not_lt.mpr h_58), if_neg (Int64.not_le.mpr h_80), if_pos h_99] at hse
            exact ih (k + 1) _ _ (by omega) (by omega) rfl hse
          · try simp only [c0, lg_cmp_ge, lg_cmp_lt] at h_99
            refine z_iconst (v := 0) F dX7_canDeal_102 (by decide) ?_
            refine z_zret F X dX7_canDeal_103 (by decide) ?_
            rw [if_neg (Int64.not_lt.mpr h_58), if_neg (Int64.not_le.mpr h_80), if_neg h_99] at hse
            exact ⟨rfl, bI_f (by rw [← hse]; decide)⟩
        · try simp only [c0, lg_cmp_ge, lg_cmp_lt] at h_80
          refine z_iconst (v := 0) F dX7_canDeal_83 (by decide) ?_
          refine z_zret F X dX7_canDeal_84 (by decide) ?_
          rw [if_neg (Int64.not_lt.mpr h_58), if_pos h_80] at hse
          exact ⟨rfl, bI_f (by rw [← hse]; decide)⟩
      · try simp only [c0, lg_cmp_ge, lg_cmp_lt] at h_58
        refine z_goto (tgt := 111) F dX7_canDeal_61 (by decide) ?_
        refine z_iincc (c := 1) (lv' := [_, _, _, _, _, _, _]) F dX7_canDeal_111 rfl (by decide) (by decide) rfl rfl ?_
        refine z_goto (tgt := 44) F dX7_canDeal_114 (by decide) ?_
        rw [nI_1]
        rw [if_pos h_58] at hse
        exact ih (k + 1) _ _ (by omega) (by omega) hok hse
  refine z_aload_n F dX7_canDeal_0 rfl ?_
  refine zg_X7_now F (by with_reducible assumption) fl_X7_10 dX7_canDeal_1 (fun hk_1 => ?_)
  refine zg_X6_road F (by with_reducible assumption) fl_X7_44 dX7_canDeal_4 (fun hk_4 => ?_)
  refine z_aload_n F dX7_canDeal_7 rfl ?_
  refine zg_X7_now F (by with_reducible assumption) fl_X7_10 dX7_canDeal_8 (fun hk_8 => ?_)
  refine zg_X6_trip F (by with_reducible assumption) fl_X7_83 dX7_canDeal_11 (fun hk_11 => ?_)
  refine zg_X5_his F (by with_reducible assumption) fl_X7_123 dX7_canDeal_14 ?_
  refine z_callVi F (c_X1_isThing J (by with_reducible assumption)) zm_X1_isThing zv_X1_isThing ml_X7_61 (by with_reducible assumption) (by decide) rfl rfl rfl (Nat.le_of_ble_eq_true rfl) dX7_canDeal_17 (by omega) (fun r_17 M_17 h_17 => ?_)
  obtain ⟨e_17, rfl⟩ := h_17
  replace e_17 := Eq.symm e_17
  subst e_17
  refine z_if_eq (tgt := 38) F dX7_canDeal_20 (by decide) (fun h_20 => ?_) (fun h_20 => ?_)
  · replace h_20 := bI_0.mp h_20
    refine z_iconst (v := 0) F dX7_canDeal_38 (by decide) ?_
    refine z_istore (lv' := [_, _, _, _, _, _, _]) F dX7_canDeal_39 (by decide) rfl rfl ?_
    refine z_iload_n F dX7_canDeal_41 rfl ?_
    refine z_istore (lv' := [_, _, _, _, _, _, _]) F dX7_canDeal_42 (by decide) rfl rfl ?_
    rw [if_neg h_20] at hD
    rw [hD]
    exact key np a D0 none (by omega) (by omega) rfl hR
  · replace h_20 := bI_1.mp h_20
    refine z_iconst (v := 1) F dX7_canDeal_23 (by decide) ?_
    refine z_aload_n F dX7_canDeal_24 rfl ?_
    refine zg_X7_now F (by with_reducible assumption) fl_X7_10 dX7_canDeal_25 (fun hk_25 => ?_)
    refine zg_X6_trip F (by with_reducible assumption) fl_X7_83 dX7_canDeal_28 (fun hk_28 => ?_)
    refine zg_X5_his F (by with_reducible assumption) fl_X7_123 dX7_canDeal_31 ?_
    refine z_ishl F dX7_canDeal_34 ?_
    refine z_goto (tgt := 39) F dX7_canDeal_35 (by decide) ?_
    refine z_istore (lv' := [_, _, _, _, _, _, _]) F dX7_canDeal_39 (by decide) rfl rfl ?_
    refine z_iload_n F dX7_canDeal_41 rfl ?_
    refine z_istore (lv' := [_, _, _, _, _, _, _]) F dX7_canDeal_42 (by decide) rfl rfl ?_
    rw [if_pos h_20] at hD
    rw [hD]
    exact key np a D0 none (by omega) (by omega) rfl hR
/-- what the people have then -/
def dealT (T : zF1) (f : Nat → Int64) (a : Nat) (k : Nat) : zF1 := fun q => if 5 ≤ q ∧ q < 5 + k then (if f (a + (q - 5)) < 0 then -4 else (f (a + (q - 5))).toInt32) else T q
theorem dealT_s (T : zF1) (f : Nat → Int64) (a k : Nat) {v : Int32} (hv : v = if f (a + k) < 0 then -4 else (f (a + k)).toInt32) : va_up (dealT T f a k) (5 + k) v = dealT T f a (k + 1) := by
  funext q
  unfold va_up dealT
  by_cases e : q = 5 + k
  · subst e
    rw [if_pos rfl, if_pos (by omega), hv, show 5 + k - 5 = k by omega]
  · rw [if_neg e]
    by_cases e2 : 5 ≤ q ∧ q < 5 + k
    · exact (if_pos e2).trans (if_pos (show 5 ≤ q ∧ q < 5 + (k + 1) by omega)).symm
    · exact (if_neg e2).trans (if_neg (show ¬ (5 ≤ q ∧ q < 5 + (k + 1)) by omega)).symm
theorem c_X7_deal {l : Launch} {w : zE} (J : zJ w) {M : zM} {o np L : Nat} {x ln i : Int32} (hk : zk o = 7) (ho : o = 0) (hnp : M.1 (o + 1 + 1) 1 = nI np) (h8 : np ≤ 8) (hL : M.1 (o + 129 + 1 + 2 * x.toNatClampNeg) 2 = nI L) (h16 : L ≤ 16) : zCi l w yX7_deal cX7_deal 10 (some .int) 3 [.ref (w.2.2 o), .int x, .int ln, .int i] M (fun r M2 => rowS M o x ln i (nI np) < 0 ∧ M2 = M ∧ r = rowS M o x ln i (nI np) ∨ ¬ rowS M o x ln i (nI np) < 0 ∧ ∃ a, i = nI a ∧ a + np ≤ 16 ∧ (¬ dealL (M.2 (o + 129 + 1 + 2 * x.toNatClampNeg + 1)) (M.1 (o + 1 + 1) 0) np a (if 0 ≤ M.1 (o + 1 + 15) 0 ∧ M.1 (o + 1 + 15) 0 < M.1 (o + 1 + 1) 0 then (1 : Int32) <<< (M.1 (o + 1 + 15) 0 &&& 31) else 0) = true ∧ M2 = M ∧ r = -2 ∨ dealL (M.2 (o + 129 + 1 + 2 * x.toNatClampNeg + 1)) (M.1 (o + 1 + 1) 0) np a (if 0 ≤ M.1 (o + 1 + 15) 0 ∧ M.1 (o + 1 + 15) 0 < M.1 (o + 1 + 1) 0 then (1 : Int32) <<< (M.1 (o + 1 + 15) 0 &&& 31) else 0) = true ∧ r = nI np ∧ M2 = za M (o + 1 + 15) (dealT (M.1 (o + 1 + 15)) (M.2 (o + 129 + 1 + 2 * x.toNatClampNeg + 1)) a np))) := by
  refine zCi_of J zm_X7_deal [some (.ref (w.2.2 o)), some (.int x), some (.int ln), some (.int i), none, none, none, none, none, none] (Nat.le_of_ble_eq_true rfl) rfl (fun g hg F X => ?_)
  subst hg
  generalize hs : o + 129 + 1 + 2 * x.toNatClampNeg = s at X
  generalize hD : (if 0 ≤ M.1 (o + 1 + 15) 0 ∧ M.1 (o + 1 + 15) 0 < M.1 (o + 1 + 1) 0 then (1 : Int32) <<< (M.1 (o + 1 + 15) 0 &&& 31) else 0) = D0 at X
  have key : ∀ (a : Nat) (y : Int32), zk (s + 1) = 14 → zn (s + 1) = 16 → i = nI a → a + np ≤ 16 → ¬ rowS M o x ln i (nI np) < 0 → dealL (M.2 (s + 1)) (M.1 (o + 1 + 1) 0) np a D0 = true → ∀ (j k : Nat) (x8 : Option Value), k + j = np → zok [none, none, none, none, none, none, none, none, x8, none] 8 = true → ZW w g 10 60 [some (.ref (w.2.2 o)), some (.int x), some (.int ln), some (.int i), some (.int (nI np)), some (.int y), some (.ref (w.2.2 (s + 1))), some (.int (nI k)), x8, none] [] (za M (o + 1 + 15) (dealT (M.1 (o + 1 + 15)) (M.2 (s + 1)) a k)) := by
    intro a y hk14 hz hia ha hF hc j
    induction j with
    | zero =>
      intro k x8 hkj hok
      refine z_iload F dX7_deal_60 rfl ?_
      refine z_iload F dX7_deal_62 rfl ?_
      refine z_ic_ge (tgt := 110) F dX7_deal_64 (by decide) (fun h_64 => ?_) (fun h_64 => absurd h_64 (by rw [show k = np by omega]; exact nlt (Int32.le_refl _)))
      refine z_iload F dX7_deal_110 rfl ?_
      refine z_iret F X dX7_deal_112 ?_
      refine Or.inr ⟨hF, a, hia, ha, Or.inr ⟨hc, rfl, ?_⟩⟩
      rw [show k = np by omega]
    | succ j ih =>
      intro k x8 hkj hok
      have c0 : (nI k).toNatClampNeg = k := nI_clamp (by omega)
      have c1 : (i + nI k).toNatClampNeg = a + k := by rw [hia, nI_add]; exact nI_clamp (by omega)
      have c2 : ∀ f, (za M (o + 1 + 15) f).2 (s + 1) = M.2 (s + 1) := fun f => rfl
      refine z_iload F dX7_deal_60 rfl ?_
      refine z_iload F dX7_deal_62 rfl ?_
      refine z_ic_ge (tgt := 110) F dX7_deal_64 (by decide) (fun h_64 => absurd h_64 (nle (nI_lt (by omega) (by omega)))) (fun h_64 => ?_)
      refine z_aload F dX7_deal_67 rfl ?_
      refine z_iload_n F dX7_deal_69 rfl ?_
      refine z_iload F dX7_deal_70 rfl ?_
      refine z_iadd F dX7_deal_72 ?_
      refine z_lald14 F (by with_reducible assumption) (by rw [hz, hia, nI_add]; exact vp_in_nI (by omega) (by omega)) dX7_deal_73 ?_
      try simp only [c0, c1, c2, lg_cmp_ge, lg_cmp_lt]
      refine z_lstore (lv' := [_, _, _, _, _, _, _, _, _, _]) F dX7_deal_74 (by decide) rfl rfl ?_
      refine z_aload_n F dX7_deal_76 rfl ?_
      refine zg_X7_now F (by with_reducible assumption) fl_X7_10 dX7_deal_77 (fun hk_77 => ?_)
      refine zg_X6_trip F (by with_reducible assumption) fl_X7_83 dX7_deal_80 (fun hk_80 => ?_)
      refine zg_X5_theirs F (by with_reducible assumption) fl_X7_115 dX7_deal_83 (fun hk_83 => ?_)
      refine z_iload F dX7_deal_86 rfl ?_
      refine z_lload F dX7_deal_88 rfl ?_
      refine z_lconst (v := 0) F dX7_deal_90 (by decide) ?_
      refine z_lcmp F dX7_deal_91 ?_
      refine z_if_ge (tgt := 100) F dX7_deal_92 (by decide) (fun h_92 => ?_) (fun h_92 => ?_)
      · try simp only [c0, c1, c2, lg_cmp_ge, lg_cmp_lt] at h_92
        refine z_lload F dX7_deal_100 rfl ?_
        refine z_l2i F dX7_deal_102 ?_
        refine z_iast11 F (by with_reducible assumption) (vp_in_nI (by omega) (by omega)) dX7_deal_103 ?_
        refine z_iincc (c := 1) (lv' := [_, _, _, _, _, _, _, _, _, _]) F dX7_deal_104 rfl (by decide) (by decide) rfl rfl ?_
        refine z_goto (tgt := 60) F dX7_deal_107 (by decide) ?_
        rw [nI_1, zs_za, za_at, za_za, c0, dealT_s (M.1 (o + 1 + 15)) (M.2 (s + 1)) a k (if_neg (Int64.not_lt.mpr h_92)).symm]
        exact ih (k + 1) _ (by omega) rfl
      · try simp only [c0, c1, c2, lg_cmp_ge, lg_cmp_lt] at h_92
        refine z_bipush (v := (-4)) F dX7_deal_95 (by decide) ?_
        refine z_goto (tgt := 103) F dX7_deal_97 (by decide) ?_
        refine z_iast11 F (by with_reducible assumption) (vp_in_nI (by omega) (by omega)) dX7_deal_103 ?_
        refine z_iincc (c := 1) (lv' := [_, _, _, _, _, _, _, _, _, _]) F dX7_deal_104 rfl (by decide) (by decide) rfl rfl ?_
        refine z_goto (tgt := 60) F dX7_deal_107 (by decide) ?_
        rw [nI_1, zs_za, za_at, za_za, c0, dealT_s (M.1 (o + 1 + 15)) (M.2 (s + 1)) a k (if_pos h_92).symm]
        exact ih (k + 1) _ (by omega) rfl
  refine z_aload_n F dX7_deal_0 rfl ?_
  refine zg_X7_now F (by with_reducible assumption) fl_X7_10 dX7_deal_1 (fun hk_1 => ?_)
  refine zg_X6_road F (by with_reducible assumption) fl_X7_44 dX7_deal_4 (fun hk_4 => ?_)
  refine zg_X1_personCount F (by with_reducible assumption) fl_X7_101 dX7_deal_7 ?_
  try simp only [hnp]
  refine z_istore (lv' := [_, _, _, _, _, _, _, _, _, _]) F dX7_deal_10 (by decide) rfl rfl ?_
  refine z_aload_n F dX7_deal_12 rfl ?_
  refine z_iload_n F dX7_deal_13 rfl ?_
  refine z_iload_n F dX7_deal_14 rfl ?_
  refine z_iload_n F dX7_deal_15 rfl ?_
  refine z_iload F dX7_deal_16 rfl ?_
  refine z_callVi F (c_X7_rowFault J hk) zm_X7_rowFault zv_X7_rowFault ml_X7_229 (by with_reducible assumption) (by decide) rfl rfl rfl (Nat.le_of_ble_eq_true rfl) dX7_deal_18 (by omega) (fun r_18 M_18 h_18 => ?_)
  obtain ⟨e_18, rfl⟩ := h_18
  replace e_18 := Eq.symm e_18
  subst e_18
  refine z_istore (lv' := [_, _, _, _, _, _, _, _, _, _]) F dX7_deal_21 (by decide) rfl rfl ?_
  refine z_iload F dX7_deal_23 rfl ?_
  refine z_if_ge (tgt := 31) F dX7_deal_25 (by decide) (fun h_25 => ?_) (fun h_25 => ?_)
  · try simp only [hnp] at h_25
    refine z_aload_n F dX7_deal_31 rfl ?_
    refine zg_X7_sheets F (by with_reducible assumption) fl_X7_35 dX7_deal_32 (fun hk_32 => ?_)
    refine z_iload_n F dX7_deal_35 rfl ?_
    refine z_aald15 F (by with_reducible assumption) (in4 (rowS_ok (nlt h_25)).1) dX7_deal_36 (fun hk_36 => ?_)
    refine zg_X2_items F (by with_reducible assumption) fl_X7_232 dX7_deal_37 (fun hk_37 => ?_)
    refine z_astore (lv' := [_, _, _, _, _, _, _, _, _, _]) F dX7_deal_40 (by decide) rfl rfl ?_
    rw [hs] at hk_36 hk_37 ⊢
    obtain ⟨r1, r2, r3, r4, r5, r6, r7, r8, r9⟩ := rowS_ok (nlt h_25)
    obtain ⟨a, k, rfl, e6, e7⟩ := rng_n hL h16 r5 r6 r7 r8
    have e8 : np = k := (nI_eq (by omega) (by omega)).mp e6
    have hz := zn_sheet s (zk_i hk_36 (by decide)) hk_36
    refine z_aload_n F dX7_deal_42 rfl ?_
    refine z_aload F dX7_deal_43 rfl ?_
    refine z_iload_n F dX7_deal_45 rfl ?_
    refine z_iload F dX7_deal_46 rfl ?_
    refine z_callVi F (c_X7_canDeal J hk hk_37 hz (by omega)) zm_X7_canDeal zv_X7_canDeal ml_X7_247 (by with_reducible assumption) (by decide) rfl rfl rfl (Nat.le_of_ble_eq_true rfl) dX7_deal_48 (by omega) (fun r_48 M_48 h_48 => ?_)
    obtain ⟨e_48, rfl⟩ := h_48
    replace e_48 := Eq.symm e_48
    subst e_48
    rw [hD]
    refine z_if_ne (tgt := 57) F dX7_deal_51 (by decide) (fun h_51 => ?_) (fun h_51 => ?_)
    · replace h_51 := bI_1.mp h_51
      try simp only [hnp] at h_51
      refine z_iconst (v := 0) F dX7_deal_57 (by decide) ?_
      refine z_istore (lv' := [_, _, _, _, _, _, _, _, _, _]) F dX7_deal_58 (by decide) rfl rfl ?_
      have k0 := key a (rowS M o x ln (nI a) (nI np)) hk_37 hz rfl (by omega) (nlt h_25) h_51 np 0 none (by omega) rfl
      have e9 : dealT (M.1 (o + 1 + 15)) (M.2 (s + 1)) a 0 = M.1 (o + 1 + 15) := funext fun q => if_neg (by omega)
      rw [e9, za_self] at k0
      exact k0
    · replace h_51 := bI_0.mp h_51
      try simp only [hnp] at h_51
      refine z_bipush (v := (-2)) F dX7_deal_54 (by decide) ?_
      refine z_iret F X dX7_deal_56 ?_
      exact Or.inr ⟨nlt h_25, a, rfl, by omega, Or.inl ⟨h_51, rfl, rfl⟩⟩
  · try simp only [hnp] at h_25
    refine z_iload F dX7_deal_28 rfl ?_
    refine z_iret F X dX7_deal_30 ?_
    exact Or.inl ⟨h_25, rfl, rfl⟩
