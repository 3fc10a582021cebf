theorem zn_sheet : ∀ s, s < 154 → zk s = 2 → zn (s + 1) = 16 := by decide +kernel
theorem c_J7_fill {l : Launch} {w : zE} (J : zJ w) {M : zM} {i : Nat} {v : Int64} (hk : zk i = 14) : zCv l w yJ7_fill_d0a16 cJ7_fill_d0a16 5 0 [.ref (w.2.2 i), .long v] M (fun M2 => M2 = zya M i (fun o => if o < zn i then v else M.2 i o)) := by
  have hz := zn_le i
  refine zCv_of J zm_J7_fill_d0a16 [some (.ref (w.2.2 i)), some (.long v), none, none, none] (Nat.le_of_ble_eq_true rfl) rfl (fun g hg F X => ?_)
  subst hg
  have key : ∀ (j k : Nat), k + j = zn i → ZW w g 5 6 [some (.ref (w.2.2 i)), some (.long v), none, some (.int (nI k)), some (.int (nI (zn i)))] [] (zya M i (fun o => if o < k then v else M.2 i o)) := by
    intro j
    induction j with
    | zero =>
      intro k hkj
      have hkn : k = zn i := by omega
      subst hkn
      refine z_iload_n F dJ7_fill_d0a16_6 rfl ?_
      refine z_iload F dJ7_fill_d0a16_7 rfl ?_
      refine z_ic_ge (tgt := 22) F dJ7_fill_d0a16_9 (by decide) (fun h_9 => ?_) (fun h_9 => absurd h_9 (Int32.not_lt.mpr (nI_le (Nat.le_refl _) (by omega))))
      refine z_vret F X dJ7_fill_d0a16_22 ?_
      rfl
    | succ j ih =>
      intro k hkj
      have ih2 := ih (k + 1) (by omega)
      have hpc : (nI k).toNatClampNeg = k := nI_clamp (by omega)
      refine z_iload_n F dJ7_fill_d0a16_6 rfl ?_
      refine z_iload F dJ7_fill_d0a16_7 rfl ?_
      refine z_ic_ge (tgt := 22) F dJ7_fill_d0a16_9 (by decide) (fun h_9 => absurd h_9 (Int32.not_le.mpr (nI_lt (by omega) (by omega)))) (fun h_9 => ?_)
      refine z_aload_n F dJ7_fill_d0a16_12 rfl ?_
      refine z_iload_n F dJ7_fill_d0a16_13 rfl ?_
      refine z_lload_n F dJ7_fill_d0a16_14 rfl ?_
      refine z_last14 F (by with_reducible assumption) (vp_in_nI (by omega) (by omega)) dJ7_fill_d0a16_15 ?_
      refine z_iincc (c := 1) (lv' := [_, _, _, _, _]) F dJ7_fill_d0a16_16 rfl (by decide) (by decide) rfl rfl ?_
      refine z_goto (tgt := 6) F dJ7_fill_d0a16_19 (by decide) ?_
      rw [nI_1, hpc]
      have e : zy (zya M i (fun o => if o < k then v else M.2 i o)) i k v = zya M i (fun o => if o < k + 1 then v else M.2 i o) := by
        unfold zy zya
        simp only [va_up_self, bx_uu]
        refine Prod.ext rfl (congrArg (va_up M.2 i) (funext fun o => ?_))
        unfold va_up
        by_cases h : o = k
        · subst h; rw [if_pos rfl, if_pos (by omega)]
        · rw [if_neg h]
          show (if o < k then v else M.2 i o) = _
          by_cases h2 : o < k
          · rw [if_pos h2, if_pos (by omega)]
          · rw [if_neg h2, if_neg (by omega)]
      rw [e]
      exact ih2
  refine z_iconst (v := 0) F dJ7_fill_d0a16_0 (by decide) ?_
  refine z_istore_n (lv' := [_, _, _, _, _]) F dJ7_fill_d0a16_1 (by decide) rfl rfl ?_
  refine z_aload_n F dJ7_fill_d0a16_2 rfl ?_
  refine z_alen14 F (by with_reducible assumption) dJ7_fill_d0a16_3 ?_
  refine z_istore (lv' := [_, _, _, _, _]) F dJ7_fill_d0a16_4 (by decide) rfl rfl ?_
  have k0 := key (zn i) 0 (by omega)
  have e : zya M i (fun o => if o < 0 then v else M.2 i o) = M := by
    unfold zya
    refine Prod.ext rfl ?_
    show va_up M.2 i (fun o => M.2 i o) = M.2
    exact va_up_id M.2 i
  rw [e] at k0
  exact k0
theorem c_X2_renew {l : Launch} {w : zE} (J : zJ w) {M : zM} {s : Nat} {ln n : Int32} (hk : zk s = 2) : zCv l w yX2_renew cX2_renew 3 1 [.ref (w.2.2 s), .int ln, .int n] M (fun M2 => M2 = zya (zs (zs (zs M s 0 1) s 1 ln) s 2 n) (s + 1) (fun _ => 0)) := by
  refine zCv_mono (p1 := fun M2 => M2 = zya (zs (zs (zs M s 0 1) s 1 ln) s 2 n) (s + 1) (fun o => if o < zn (s + 1) then 0 else M.2 (s + 1) o)) (fun M2 h => ⟨_, ?_, rfl⟩) ?_
  · rw [h]
    refine ⟨fun _ _ _ => rfl, fun i o ho => ?_⟩
    show va_up M.2 (s + 1) (fun _ => 0) i o = va_up M.2 (s + 1) (fun o => if o < zn (s + 1) then 0 else M.2 (s + 1) o) i o
    by_cases hi : i = s + 1
    · subst hi
      rw [va_up_self, va_up_self, if_pos ho]
    · rw [va_up_ne _ _ hi, va_up_ne _ _ hi]
  refine zCv_of J zm_X2_renew [some (.ref (w.2.2 s)), some (.int ln), some (.int n)] (Nat.le_of_ble_eq_true rfl) rfl (fun g hg F X => ?_)
  subst hg
  refine z_aload_n F dX2_renew_0 rfl ?_
  refine z_iconst (v := 1) F dX2_renew_1 (by decide) ?_
  refine zp_X2_isThere F (by with_reducible assumption) fl_X2_15 (by decide) (by decide) dX2_renew_2 ?_
  refine z_aload_n F dX2_renew_5 rfl ?_
  refine z_iload_n F dX2_renew_6 rfl ?_
  refine zp_X2_lane F (by with_reducible assumption) fl_X2_19 dX2_renew_7 ?_
  refine z_aload_n F dX2_renew_10 rfl ?_
  refine z_iload_n F dX2_renew_11 rfl ?_
  refine zp_X2_length F (by with_reducible assumption) fl_X2_23 dX2_renew_12 ?_
  refine z_aload_n F dX2_renew_15 rfl ?_
  refine zg_X2_items F (by with_reducible assumption) fl_X2_9 dX2_renew_16 (fun hk_16 => ?_)
  refine z_lconst (v := 0) F dX2_renew_19 (by decide) ?_
  refine z_callSv F (c_J7_fill J (by with_reducible assumption)) zm_J7_fill_d0a16 zst_J7_fill_d0a16 ml_X2_26 rfl rfl (Nat.le_of_ble_eq_true rfl) dX2_renew_20 (by omega) (fun M_20 h_20 => ?_)
  replace h_20 := Eq.symm h_20
  subst h_20
  refine z_vret F X dX2_renew_23 ?_
  rfl
theorem c_X2_hasRange {l : Launch} {w : zE} (J : zJ w) {M : zM} {s : Nat} {i n : Int32} (hk : zk s = 2) : zCi l w yX2_hasRange cX2_hasRange 3 (some .boolean) 0 [.ref (w.2.2 s), .int i, .int n] M (fun v M2 => M2 = M ∧ v = bI (0 ≤ i ∧ 0 ≤ n ∧ n ≤ M.1 s 2 ∧ i ≤ M.1 s 2 - n)) := by
  refine zCi_of J zm_X2_hasRange [some (.ref (w.2.2 s)), some (.int i), some (.int n)] (Nat.le_of_ble_eq_true rfl) rfl (fun g hg F X => ?_)
  subst hg
  refine z_iload_n F dX2_hasRange_0 rfl ?_
  refine z_if_lt (tgt := 30) F dX2_hasRange_1 (by decide) (fun h_1 => ?_) (fun h_1 => ?_)
  · refine z_iconst (v := 0) F dX2_hasRange_30 (by decide) ?_
    refine z_zret F X dX2_hasRange_31 (by decide) ?_
    refine ⟨rfl, ?_⟩
    first | exact bI_t ⟨h_1, h_5, h_13, h_23⟩ | exact bI_f (fun q => nle h_1 q.1) | exact bI_f (fun q => nle h_5 q.2.1) | exact bI_f (fun q => nle h_13 q.2.2.1) | exact bI_f (fun q => nle h_23 q.2.2.2)
  · refine z_iload_n F dX2_hasRange_4 rfl ?_
    refine z_if_lt (tgt := 30) F dX2_hasRange_5 (by decide) (fun h_5 => ?_) (fun h_5 => ?_)
    · refine z_iconst (v := 0) F dX2_hasRange_30 (by decide) ?_
      refine z_zret F X dX2_hasRange_31 (by decide) ?_
      refine ⟨rfl, ?_⟩
      first | exact bI_t ⟨h_1, h_5, h_13, h_23⟩ | exact bI_f (fun q => nle h_1 q.1) | exact bI_f (fun q => nle h_5 q.2.1) | exact bI_f (fun q => nle h_13 q.2.2.1) | exact bI_f (fun q => nle h_23 q.2.2.2)
    · refine z_iload_n F dX2_hasRange_8 rfl ?_
      refine z_aload_n F dX2_hasRange_9 rfl ?_
      refine zg_X2_length F (by with_reducible assumption) fl_X2_23 dX2_hasRange_10 ?_
      refine z_ic_gt (tgt := 30) F dX2_hasRange_13 (by decide) (fun h_13 => ?_) (fun h_13 => ?_)
      · refine z_iconst (v := 0) F dX2_hasRange_30 (by decide) ?_
        refine z_zret F X dX2_hasRange_31 (by decide) ?_
        refine ⟨rfl, ?_⟩
        first | exact bI_t ⟨h_1, h_5, h_13, h_23⟩ | exact bI_f (fun q => nle h_1 q.1) | exact bI_f (fun q => nle h_5 q.2.1) | exact bI_f (fun q => nle h_13 q.2.2.1) | exact bI_f (fun q => nle h_23 q.2.2.2)
      · refine z_iload_n F dX2_hasRange_16 rfl ?_
        refine z_aload_n F dX2_hasRange_17 rfl ?_
        refine zg_X2_length F (by with_reducible assumption) fl_X2_23 dX2_hasRange_18 ?_
        refine z_iload_n F dX2_hasRange_21 rfl ?_
        refine z_isub F dX2_hasRange_22 ?_
        refine z_ic_gt (tgt := 30) F dX2_hasRange_23 (by decide) (fun h_23 => ?_) (fun h_23 => ?_)
        · refine z_iconst (v := 0) F dX2_hasRange_30 (by decide) ?_
          refine z_zret F X dX2_hasRange_31 (by decide) ?_
          refine ⟨rfl, ?_⟩
          first | exact bI_t ⟨h_1, h_5, h_13, h_23⟩ | exact bI_f (fun q => nle h_1 q.1) | exact bI_f (fun q => nle h_5 q.2.1) | exact bI_f (fun q => nle h_13 q.2.2.1) | exact bI_f (fun q => nle h_23 q.2.2.2)
        · refine z_iconst (v := 1) F dX2_hasRange_26 (by decide) ?_
          refine z_goto (tgt := 31) F dX2_hasRange_27 (by decide) ?_
          refine z_zret F X dX2_hasRange_31 (by decide) ?_
          refine ⟨rfl, ?_⟩
          first | exact bI_t ⟨h_1, h_5, h_13, h_23⟩ | exact bI_f (fun q => nle h_1 q.1) | exact bI_f (fun q => nle h_5 q.2.1) | exact bI_f (fun q => nle h_13 q.2.2.1) | exact bI_f (fun q => nle h_23 q.2.2.2)
/-- the lowest bits of v that an item of a lane holds -/
def putF (ln : Int32) (v : Int64) : Int64 := if ln = 0 then v.toInt32.toInt8.toInt32.toInt64 else if ln = 1 then v.toInt32.toInt16.toInt32.toInt64 else if ln = 2 then v.toInt32.toInt64 else v
theorem c_X2_put {l : Launch} {w : zE} (J : zJ w) {M : zM} {s k : Nat} {v : Int64} (hk : zk s = 2) (h16 : k < 16) : zCv l w yX2_put cX2_put 4 0 [.ref (w.2.2 s), .int (nI k), .long v] M (fun M2 => M2 = zy M (s + 1) k (putF (M.1 s 1) v)) := by
  have hz := zn_sheet s (zk_i hk (by decide)) hk
  have hpc : (nI k).toNatClampNeg = k := nI_clamp (by omega)
  have hpin : vp_in (nI k) (zn (s + 1)) := vp_in_nI (by omega) (by omega)
  refine zCv_of J zm_X2_put [some (.ref (w.2.2 s)), some (.int (nI k)), some (.long v), none] (Nat.le_of_ble_eq_true rfl) rfl (fun g hg F X => ?_)
  subst hg
  refine z_iload_n F dX2_put_0 rfl ?_
  refine z_if_lt (tgt := 13) F dX2_put_1 (by decide) (fun h_1 => absurd h_1 (nI_pos (by omega))) (fun h_1 => ?_)
  refine z_iload_n F dX2_put_4 rfl ?_
  refine z_aload_n F dX2_put_5 rfl ?_
  refine zg_X2_items F (by with_reducible assumption) fl_X2_9 dX2_put_6 (fun hk_6 => ?_)
  refine z_alen14 F (by with_reducible assumption) dX2_put_9 ?_
  refine z_ic_lt (tgt := 14) F dX2_put_10 (by decide) (fun h_10 => ?_) (fun h_10 => absurd h_10 (Int32.not_le.mpr (by rw [hz]; exact nI_lt h16 (by decide))))
  refine z_aload_n F dX2_put_14 rfl ?_
  refine zg_X2_lane F (by with_reducible assumption) fl_X2_19 dX2_put_15 ?_
  refine z_tab3 F dX2_put_18 (tgt0 := 44) (tgt1 := 57) (tgt2 := 70) (dt := 82) (by decide) (by decide) (by decide) (by decide) (fun h_18 => ?_) (fun h_18 => ?_) (fun h_18 => ?_) (fun h_18_0 h_18_1 h_18_2 => ?_)
  · refine z_aload_n F dX2_put_44 rfl ?_
    refine zg_X2_items F (by with_reducible assumption) fl_X2_9 dX2_put_45 (fun hk_45 => ?_)
    refine z_iload_n F dX2_put_48 rfl ?_
    refine z_lload_n F dX2_put_49 rfl ?_
    refine z_l2i F dX2_put_50 ?_
    refine z_i2b F dX2_put_51 ?_
    refine z_i2l F dX2_put_52 ?_
    refine z_last14 F (by with_reducible assumption) hpin dX2_put_53 ?_
    refine z_goto (tgt := 89) F dX2_put_54 (by decide) ?_
    refine z_vret F X dX2_put_89 ?_
    rw [hpc]
    first | (simp only [putF, h_18, if_true]; done) | simp_all [putF]
  · refine z_aload_n F dX2_put_57 rfl ?_
    refine zg_X2_items F (by with_reducible assumption) fl_X2_9 dX2_put_58 (fun hk_58 => ?_)
    refine z_iload_n F dX2_put_61 rfl ?_
    refine z_lload_n F dX2_put_62 rfl ?_
    refine z_l2i F dX2_put_63 ?_
    refine z_i2s F dX2_put_64 ?_
    refine z_i2l F dX2_put_65 ?_
    refine z_last14 F (by with_reducible assumption) hpin dX2_put_66 ?_
    refine z_goto (tgt := 89) F dX2_put_67 (by decide) ?_
    refine z_vret F X dX2_put_89 ?_
    rw [hpc]
    first | (simp only [putF, h_18, if_true]; done) | simp_all [putF]
  · refine z_aload_n F dX2_put_70 rfl ?_
    refine zg_X2_items F (by with_reducible assumption) fl_X2_9 dX2_put_71 (fun hk_71 => ?_)
    refine z_iload_n F dX2_put_74 rfl ?_
    refine z_lload_n F dX2_put_75 rfl ?_
    refine z_l2i F dX2_put_76 ?_
    refine z_i2l F dX2_put_77 ?_
    refine z_last14 F (by with_reducible assumption) hpin dX2_put_78 ?_
    refine z_goto (tgt := 89) F dX2_put_79 (by decide) ?_
    refine z_vret F X dX2_put_89 ?_
    rw [hpc]
    first | (simp only [putF, h_18, if_true]; done) | simp_all [putF]
  · refine z_aload_n F dX2_put_82 rfl ?_
    refine zg_X2_items F (by with_reducible assumption) fl_X2_9 dX2_put_83 (fun hk_83 => ?_)
    refine z_iload_n F dX2_put_86 rfl ?_
    refine z_lload_n F dX2_put_87 rfl ?_
    refine z_last14 F (by with_reducible assumption) hpin dX2_put_88 ?_
    refine z_vret F X dX2_put_89 ?_
    rw [hpc]
    first | (simp only [putF, h_18, if_true]; done) | simp_all [putF]
