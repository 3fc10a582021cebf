theorem c_X1_worthOf {l : Launch} {w : zE} (J : zJ w) {M : zM} {r : Nat} {x : Int32} (hk : zk r = 1) (hn : M.1 r 0 ≤ 10) : zCi l w yX1_worthOf cX1_worthOf 2 (some .int) 1 [.ref (w.2.2 r), .int x] M (fun v M2 => M2 = M ∧ v = worthO (M.1 (r + 1)) (M.1 r 0) x) := by
  refine zCi_of J zm_X1_worthOf [some (.ref (w.2.2 r)), some (.int x)] (Nat.le_of_ble_eq_true rfl) rfl (fun g hg F X => ?_)
  subst hg
  refine z_aload_n F dX1_worthOf_0 rfl ?_
  refine z_iload_n F dX1_worthOf_1 rfl ?_
  refine z_callVi F (c_X1_isThing J (by with_reducible assumption)) zm_X1_isThing zv_X1_isThing ml_X1_65 (by with_reducible assumption) (by decide) rfl rfl rfl (Nat.le_of_ble_eq_true rfl) dX1_worthOf_2 (by decide) (fun r_2 M_2 h_2 => ?_)
  obtain ⟨e_2, rfl⟩ := h_2
  replace e_2 := Eq.symm e_2
  subst e_2
  refine z_if_eq (tgt := 20) F dX1_worthOf_5 (by decide) (fun h_5 => ?_) (fun h_5 => ?_)
  · replace h_5 := bI_0.mp h_5
    refine z_iconst (v := 0) F dX1_worthOf_20 (by decide) ?_
    refine z_iret F X dX1_worthOf_21 ?_
    first | exact ⟨rfl, by rw [hb_13, ho_13, worthO, if_pos h_5]⟩ | exact ⟨rfl, by rw [worthO, if_neg h_5]⟩
  · replace h_5 := bI_1.mp h_5
    refine z_aload_n F dX1_worthOf_8 rfl ?_
    refine zg_X1_things F (by with_reducible assumption) fl_X1_11 dX1_worthOf_9 (fun hk_9 => ?_)
    refine z_iload_n F dX1_worthOf_12 rfl ?_
    refine z_aald16 F (by with_reducible assumption) (vpl 10 (by decide) (by first | with_reducible assumption | grind)) dX1_worthOf_13 (fun hk_13 hb_13 ho_13 => ?_)
    refine zg_X4_worth F (by with_reducible assumption) fl_X1_35 dX1_worthOf_14 ?_
    refine z_goto (tgt := 21) F dX1_worthOf_17 (by decide) ?_
    refine z_iret F X dX1_worthOf_21 ?_
    first | exact ⟨rfl, by rw [hb_13, ho_13, worthO, if_pos h_5]⟩ | exact ⟨rfl, by rw [worthO, if_neg h_5]⟩
theorem c_X1_feelOneMore {l : Launch} {w : zE} (J : zJ w) {M : zM} {r t : Nat} {c : Int32} (hk : zk r = 1) (ht : zk t = 5) (hh : 0 ≤ M.1 t 0 ∧ M.1 t 0 < 10) : zCv l w yX1_feelOneMore cX1_feelOneMore 5 1 [.ref (w.2.2 r), .ref (w.2.2 t), .int c] M (fun M2 => M2 = za M t (feelF (M.1 (r + 1)) c (M.1 t))) := by
  have e1 := (zkf1 r (zk_i hk (by decide)) hk).1
  have n1 : r + 1 ≠ t := zk_ne e1 ht (by decide)
  refine zCv_of J zm_X1_feelOneMore [some (.ref (w.2.2 r)), some (.ref (w.2.2 t)), some (.int c), none, none] (Nat.le_of_ble_eq_true rfl) rfl (fun g hg F X => ?_)
  subst hg
  refine z_aload_n F dX1_feelOneMore_0 rfl ?_
  refine z_dup F dX1_feelOneMore_1 rfl ?_
  refine zg_X5_n F (by with_reducible assumption) fl_X1_86 dX1_feelOneMore_2 ?_
  refine z_iconst (v := 1) F dX1_feelOneMore_5 (by decide) ?_
  refine z_iadd F dX1_feelOneMore_6 ?_
  refine zp_X5_n F (by with_reducible assumption) fl_X1_86 dX1_feelOneMore_7 ?_
  refine z_aload_n F dX1_feelOneMore_10 rfl ?_
  refine zg_X1_things F (by with_reducible assumption) fl_X1_11 dX1_feelOneMore_11 (fun hk_11 => ?_)
  refine z_aload_n F dX1_feelOneMore_14 rfl ?_
  refine zg_X5_his F (by with_reducible assumption) fl_X1_69 dX1_feelOneMore_15 ?_
  rw [zs_at, va_up_ne _ _ (by decide)]
  refine z_aald16 F (by with_reducible assumption) (vpl 10 (by decide) hh) dX1_feelOneMore_18 (fun hk_18 hb_18 ho_18 => ?_)
  refine z_astore_n (lv' := [_, _, _, _, _]) F dX1_feelOneMore_19 (by decide) rfl rfl ?_
  refine z_aload_n F dX1_feelOneMore_20 rfl ?_
  refine z_iconst (v := 0) F dX1_feelOneMore_21 (by decide) ?_
  refine z_aload_n F dX1_feelOneMore_22 rfl ?_
  refine zg_X5_n F (by with_reducible assumption) fl_X1_86 dX1_feelOneMore_23 ?_
  refine z_callVi F (c_X4_feltBy J (by with_reducible assumption)) zm_X4_feltBy zv_X4_feltBy ml_X1_89 (by with_reducible assumption) (by decide) rfl rfl rfl (Nat.le_of_ble_eq_true rfl) dX1_feelOneMore_26 (by decide) (fun r_26 M_26 h_26 => ?_)
  obtain ⟨e_26, rfl⟩ := h_26
  replace e_26 := Eq.symm e_26
  subst e_26
  refine z_aload_n F dX1_feelOneMore_29 rfl ?_
  refine z_iconst (v := 1) F dX1_feelOneMore_30 (by decide) ?_
  refine z_aload_n F dX1_feelOneMore_31 rfl ?_
  refine zg_X5_n F (by with_reducible assumption) fl_X1_86 dX1_feelOneMore_32 ?_
  refine z_callVi F (c_X4_feltBy J (by with_reducible assumption)) zm_X4_feltBy zv_X4_feltBy ml_X1_89 (by with_reducible assumption) (by decide) rfl rfl rfl (Nat.le_of_ble_eq_true rfl) dX1_feelOneMore_35 (by decide) (fun r_35 M_35 h_35 => ?_)
  obtain ⟨e_35, rfl⟩ := h_35
  replace e_35 := Eq.symm e_35
  subst e_35
  refine z_iload_n F dX1_feelOneMore_38 rfl ?_
  refine z_imul F dX1_feelOneMore_39 ?_
  refine z_ic_lt (tgt := 47) F dX1_feelOneMore_40 (by decide) (fun h_40 => ?_) (fun h_40 => ?_)
  · refine z_iconst (v := 0) F dX1_feelOneMore_47 (by decide) ?_
    refine z_istore (lv' := [_, _, _, _, _]) F dX1_feelOneMore_48 (by decide) rfl rfl ?_
    refine z_aload_n F dX1_feelOneMore_50 rfl ?_
    refine z_iload F dX1_feelOneMore_51 rfl ?_
    refine z_if_eq (tgt := 60) F dX1_feelOneMore_53 (by decide) (fun h_53 => ?_) (fun h_53 => absurd h_53 (by decide))
    refine z_iconst (v := 1) F dX1_feelOneMore_60 (by decide) ?_
    refine zp_X5_mind F (by with_reducible assumption) fl_X1_97 dX1_feelOneMore_61 ?_
    refine z_vret F X dX1_feelOneMore_64 ?_
    simp only [hb_18, ho_18, zs_at, va_up_self, zs_off _ n1] at h_40
    simp only [zs_za, za_za, za_at]
    first | rw [feelF, if_pos h_40] | rw [feelF, if_neg (nle h_40)]
  · refine z_iconst (v := 1) F dX1_feelOneMore_43 (by decide) ?_
    refine z_goto (tgt := 48) F dX1_feelOneMore_44 (by decide) ?_
    refine z_istore (lv' := [_, _, _, _, _]) F dX1_feelOneMore_48 (by decide) rfl rfl ?_
    refine z_aload_n F dX1_feelOneMore_50 rfl ?_
    refine z_iload F dX1_feelOneMore_51 rfl ?_
    refine z_if_eq (tgt := 60) F dX1_feelOneMore_53 (by decide) (fun h_53 => absurd h_53 (by decide)) (fun h_53 => ?_)
    refine z_iconst (v := 0) F dX1_feelOneMore_56 (by decide) ?_
    refine z_goto (tgt := 61) F dX1_feelOneMore_57 (by decide) ?_
    refine zp_X5_mind F (by with_reducible assumption) fl_X1_97 dX1_feelOneMore_61 ?_
    refine z_vret F X dX1_feelOneMore_64 ?_
    simp only [hb_18, ho_18, zs_at, va_up_self, zs_off _ n1] at h_40
    simp only [zs_za, za_za, za_at]
    first | rw [feelF, if_pos h_40] | rw [feelF, if_neg (nle h_40)]
theorem c_X1_isGlad {l : Launch} {w : zE} (J : zJ w) {M : zM} {r t : Nat} {x hd c : Int32} (hk : zk r = 1) (ht : zk t = 5) (hh : 0 ≤ M.1 t 0 ∧ M.1 t 0 < 10) (hx : 0 ≤ x ∧ x < 10) : zCi l w yX1_isGlad cX1_isGlad 8 (some .boolean) 1 [.ref (w.2.2 r), .ref (w.2.2 t), .int x, .int hd, .int c] M (fun v M2 => M2 = M ∧ v = bI (gladF (M.1 (r + 1)) c hd (M.1 t) x)) := by
  refine zCi_of J zm_X1_isGlad [some (.ref (w.2.2 r)), some (.ref (w.2.2 t)), some (.int x), some (.int hd), some (.int c), none, none, none] (Nat.le_of_ble_eq_true rfl) rfl (fun g hg F X => ?_)
  subst hg
  refine z_aload_n F dX1_isGlad_0 rfl ?_
  refine zg_X1_things F (by with_reducible assumption) fl_X1_11 dX1_isGlad_1 (fun hk_1 => ?_)
  refine z_aload_n F dX1_isGlad_4 rfl ?_
  refine zg_X5_his F (by with_reducible assumption) fl_X1_69 dX1_isGlad_5 ?_
  refine z_aald16 F (by with_reducible assumption) (vpl 10 (by decide) (by first | with_reducible assumption | grind)) dX1_isGlad_8 (fun hk_8 hb_8 ho_8 => ?_)
  refine z_astore (lv' := [_, _, _, _, _, _, _, _]) F dX1_isGlad_9 (by decide) rfl rfl ?_
  refine z_aload_n F dX1_isGlad_11 rfl ?_
  refine zg_X1_things F (by with_reducible assumption) fl_X1_11 dX1_isGlad_12 (fun hk_12 => ?_)
  refine z_iload_n F dX1_isGlad_15 rfl ?_
  refine z_aald16 F (by with_reducible assumption) (vpl 10 (by decide) (by first | with_reducible assumption | grind)) dX1_isGlad_16 (fun hk_16 hb_16 ho_16 => ?_)
  refine z_astore (lv' := [_, _, _, _, _, _, _, _]) F dX1_isGlad_17 (by decide) rfl rfl ?_
  refine z_aload_n F dX1_isGlad_19 rfl ?_
  refine zg_X5_mind F (by with_reducible assumption) fl_X1_97 dX1_isGlad_20 ?_
  refine z_iconst (v := 1) F dX1_isGlad_23 (by decide) ?_
  refine z_ic_ne (tgt := 32) F dX1_isGlad_24 (by decide) (fun h_24 => ?_) (fun h_24 => ?_)
  · refine z_iconst (v := 1) F dX1_isGlad_32 (by decide) ?_
    refine z_istore (lv' := [_, _, _, _, _, _, _, _]) F dX1_isGlad_33 (by decide) rfl rfl ?_
    refine z_aload F dX1_isGlad_35 rfl ?_
    refine z_aload_n F dX1_isGlad_37 rfl ?_
    refine zg_X5_mind F (by with_reducible assumption) fl_X1_97 dX1_isGlad_38 ?_
    refine z_aload_n F dX1_isGlad_41 rfl ?_
    refine zg_X5_n F (by with_reducible assumption) fl_X1_86 dX1_isGlad_42 ?_
    refine z_callVi F (c_X4_feltBy J (by with_reducible assumption)) zm_X4_feltBy zv_X4_feltBy ml_X1_89 (by with_reducible assumption) (by decide) rfl rfl rfl (Nat.le_of_ble_eq_true rfl) dX1_isGlad_45 (by decide) (fun r_45 M_45 h_45 => ?_)
    obtain ⟨e_45, rfl⟩ := h_45
    replace e_45 := Eq.symm e_45
    subst e_45
    refine z_iload F dX1_isGlad_48 rfl ?_
    refine z_imul F dX1_isGlad_50 ?_
    refine z_aload F dX1_isGlad_51 rfl ?_
    refine z_aload_n F dX1_isGlad_53 rfl ?_
    refine zg_X5_mind F (by with_reducible assumption) fl_X1_97 dX1_isGlad_54 ?_
    refine z_iconst (v := 0) F dX1_isGlad_57 (by decide) ?_
    refine z_callVi F (c_X4_feltBy J (by with_reducible assumption)) zm_X4_feltBy zv_X4_feltBy ml_X1_89 (by with_reducible assumption) (by decide) rfl rfl rfl (Nat.le_of_ble_eq_true rfl) dX1_isGlad_58 (by decide) (fun r_58 M_58 h_58 => ?_)
    obtain ⟨e_58, rfl⟩ := h_58
    replace e_58 := Eq.symm e_58
    subst e_58
    refine z_ic_le (tgt := 83) F dX1_isGlad_61 (by decide) (fun h_61 => ?_) (fun h_61 => ?_)
    · refine z_iconst (v := 0) F dX1_isGlad_83 (by decide) ?_
      refine z_zret F X dX1_isGlad_84 (by decide) ?_
      refine ⟨rfl, ?_⟩
      try simp only [hb_8, ho_8, hb_16, ho_16] at h_61
      try simp only [hb_8, ho_8, hb_16, ho_16] at h_76
      first | simp only [gladF, timesF_1 h_24] | simp only [gladF, timesF_0 h_24]
      first | exact bI_t ⟨h_61, h_76⟩ | exact bI_f (fun q => nlt h_61 q.1) | exact bI_f (fun q => nle h_76 q.2)
    · refine z_aload F dX1_isGlad_64 rfl ?_
      refine zg_X4_worth F (by with_reducible assumption) fl_X1_35 dX1_isGlad_66 ?_
      refine z_aload F dX1_isGlad_69 rfl ?_
      refine zg_X4_worth F (by with_reducible assumption) fl_X1_35 dX1_isGlad_71 ?_
      refine z_isub F dX1_isGlad_74 ?_
      refine z_iload_n F dX1_isGlad_75 rfl ?_
      refine z_ic_gt (tgt := 83) F dX1_isGlad_76 (by decide) (fun h_76 => ?_) (fun h_76 => ?_)
      · refine z_iconst (v := 0) F dX1_isGlad_83 (by decide) ?_
        refine z_zret F X dX1_isGlad_84 (by decide) ?_
        refine ⟨rfl, ?_⟩
        try simp only [hb_8, ho_8, hb_16, ho_16] at h_61
        try simp only [hb_8, ho_8, hb_16, ho_16] at h_76
        first | simp only [gladF, timesF_1 h_24] | simp only [gladF, timesF_0 h_24]
        first | exact bI_t ⟨h_61, h_76⟩ | exact bI_f (fun q => nlt h_61 q.1) | exact bI_f (fun q => nle h_76 q.2)
      · refine z_iconst (v := 1) F dX1_isGlad_79 (by decide) ?_
        refine z_goto (tgt := 84) F dX1_isGlad_80 (by decide) ?_
        refine z_zret F X dX1_isGlad_84 (by decide) ?_
        refine ⟨rfl, ?_⟩
        try simp only [hb_8, ho_8, hb_16, ho_16] at h_61
        try simp only [hb_8, ho_8, hb_16, ho_16] at h_76
        first | simp only [gladF, timesF_1 h_24] | simp only [gladF, timesF_0 h_24]
        first | exact bI_t ⟨h_61, h_76⟩ | exact bI_f (fun q => nlt h_61 q.1) | exact bI_f (fun q => nle h_76 q.2)
  · refine z_iload F dX1_isGlad_27 rfl ?_
    refine z_goto (tgt := 33) F dX1_isGlad_29 (by decide) ?_
    refine z_istore (lv' := [_, _, _, _, _, _, _, _]) F dX1_isGlad_33 (by decide) rfl rfl ?_
    refine z_aload F dX1_isGlad_35 rfl ?_
    refine z_aload_n F dX1_isGlad_37 rfl ?_
    refine zg_X5_mind F (by with_reducible assumption) fl_X1_97 dX1_isGlad_38 ?_
    refine z_aload_n F dX1_isGlad_41 rfl ?_
    refine zg_X5_n F (by with_reducible assumption) fl_X1_86 dX1_isGlad_42 ?_
    refine z_callVi F (c_X4_feltBy J (by with_reducible assumption)) zm_X4_feltBy zv_X4_feltBy ml_X1_89 (by with_reducible assumption) (by decide) rfl rfl rfl (Nat.le_of_ble_eq_true rfl) dX1_isGlad_45 (by decide) (fun r_45 M_45 h_45 => ?_)
    obtain ⟨e_45, rfl⟩ := h_45
    replace e_45 := Eq.symm e_45
    subst e_45
    refine z_iload F dX1_isGlad_48 rfl ?_
    refine z_imul F dX1_isGlad_50 ?_
    refine z_aload F dX1_isGlad_51 rfl ?_
    refine z_aload_n F dX1_isGlad_53 rfl ?_
    refine zg_X5_mind F (by with_reducible assumption) fl_X1_97 dX1_isGlad_54 ?_
    refine z_iconst (v := 0) F dX1_isGlad_57 (by decide) ?_
    refine z_callVi F (c_X4_feltBy J (by with_reducible assumption)) zm_X4_feltBy zv_X4_feltBy ml_X1_89 (by with_reducible assumption) (by decide) rfl rfl rfl (Nat.le_of_ble_eq_true rfl) dX1_isGlad_58 (by decide) (fun r_58 M_58 h_58 => ?_)
    obtain ⟨e_58, rfl⟩ := h_58
    replace e_58 := Eq.symm e_58
    subst e_58
    refine z_ic_le (tgt := 83) F dX1_isGlad_61 (by decide) (fun h_61 => ?_) (fun h_61 => ?_)
    · refine z_iconst (v := 0) F dX1_isGlad_83 (by decide) ?_
      refine z_zret F X dX1_isGlad_84 (by decide) ?_
      refine ⟨rfl, ?_⟩
      try simp only [hb_8, ho_8, hb_16, ho_16] at h_61
      try simp only [hb_8, ho_8, hb_16, ho_16] at h_76
      first | simp only [gladF, timesF_1 h_24] | simp only [gladF, timesF_0 h_24]
      first | exact bI_t ⟨h_61, h_76⟩ | exact bI_f (fun q => nlt h_61 q.1) | exact bI_f (fun q => nle h_76 q.2)
    · refine z_aload F dX1_isGlad_64 rfl ?_
      refine zg_X4_worth F (by with_reducible assumption) fl_X1_35 dX1_isGlad_66 ?_
      refine z_aload F dX1_isGlad_69 rfl ?_
      refine zg_X4_worth F (by with_reducible assumption) fl_X1_35 dX1_isGlad_71 ?_
      refine z_isub F dX1_isGlad_74 ?_
      refine z_iload_n F dX1_isGlad_75 rfl ?_
      refine z_ic_gt (tgt := 83) F dX1_isGlad_76 (by decide) (fun h_76 => ?_) (fun h_76 => ?_)
      · refine z_iconst (v := 0) F dX1_isGlad_83 (by decide) ?_
        refine z_zret F X dX1_isGlad_84 (by decide) ?_
        refine ⟨rfl, ?_⟩
        try simp only [hb_8, ho_8, hb_16, ho_16] at h_61
        try simp only [hb_8, ho_8, hb_16, ho_16] at h_76
        first | simp only [gladF, timesF_1 h_24] | simp only [gladF, timesF_0 h_24]
        first | exact bI_t ⟨h_61, h_76⟩ | exact bI_f (fun q => nlt h_61 q.1) | exact bI_f (fun q => nle h_76 q.2)
      · refine z_iconst (v := 1) F dX1_isGlad_79 (by decide) ?_
        refine z_goto (tgt := 84) F dX1_isGlad_80 (by decide) ?_
        refine z_zret F X dX1_isGlad_84 (by decide) ?_
        refine ⟨rfl, ?_⟩
        try simp only [hb_8, ho_8, hb_16, ho_16] at h_61
        try simp only [hb_8, ho_8, hb_16, ho_16] at h_76
        first | simp only [gladF, timesF_1 h_24] | simp only [gladF, timesF_0 h_24]
        first | exact bI_t ⟨h_61, h_76⟩ | exact bI_f (fun q => nlt h_61 q.1) | exact bI_f (fun q => nle h_76 q.2)

theorem c_X1_offer {l : Launch} {w : zE} (J : zJ w) {M : zM} {r t p : Nat} {c : Int32} (hk : zk r = 1) (ht : zk t = 5) (hh : 0 ≤ M.1 t 0 ∧ M.1 t 0 < 10) (hp : p < 9) (hx : 0 ≤ M.1 t (5 + p) ∧ M.1 t (5 + p) < 10) : zCv l w yX1_offer cX1_offer 6 2 [.ref (w.2.2 r), .ref (w.2.2 t), .int (nI p), .int c] M (fun M2 => M2 = zt M t (offT (M.1 (r + 1)) (M.1 (r + 12) (2 * p + 1)) (M.1 r 2) c (5 + p) (M.1 t)) (offR (M.1 (r + 1)) (M.1 (r + 12) (2 * p + 1)) (M.1 r 2) c (5 + p) (M.1 t) (M.1 (t + 1) 0))) := by
  have e1 := (zkf1 r (zk_i hk (by decide)) hk).1
  have hpin : vp_in (nI p) 9 := vp_in_nI hp (by decide)
  have hpc : (nI p).toNatClampNeg = p := nI_clamp (by omega)
  refine zCv_of J zm_X1_offer [some (.ref (w.2.2 r)), some (.ref (w.2.2 t)), some (.int (nI p)), some (.int c), none, none] (Nat.le_of_ble_eq_true rfl) rfl (fun g hg F X => ?_)
  subst hg
  refine z_aload_n F dX1_offer_0 rfl ?_
  refine zg_X5_theirs F (by with_reducible assumption) fl_X1_60 dX1_offer_1 (fun hk_1 => ?_)
  refine z_iload_n F dX1_offer_4 rfl ?_
  refine z_iald11 F (by with_reducible assumption) hpin dX1_offer_5 ?_
  rw [hpc]
  refine z_istore (lv' := [_, _, _, _, _, _]) F dX1_offer_6 (by decide) rfl rfl ?_
  refine z_aload_n F dX1_offer_8 rfl ?_
  refine z_aload_n F dX1_offer_9 rfl ?_
  refine z_iload F dX1_offer_10 rfl ?_
  refine z_aload_n F dX1_offer_12 rfl ?_
  refine zg_X1_heed F (by with_reducible assumption) fl_X1_24 dX1_offer_13 ?_
  refine z_iload_n F dX1_offer_16 rfl ?_
  refine z_callVi F (c_X1_isGlad J hk ht hh hx) zm_X1_isGlad zv_X1_isGlad ml_X1_100 (by with_reducible assumption) (by decide) rfl rfl rfl (Nat.le_of_ble_eq_true rfl) dX1_offer_17 (by decide) (fun r_17 M_17 h_17 => ?_)
  obtain ⟨e_17, rfl⟩ := h_17
  replace e_17 := Eq.symm e_17
  subst e_17
  refine z_if_ne (tgt := 24) F dX1_offer_20 (by decide) (fun h_20 => ?_) (fun h_20 => ?_)
  · replace h_20 := bI_1.mp h_20
    refine z_aload_n F dX1_offer_24 rfl ?_
    refine zg_X1_things F (by with_reducible assumption) fl_X1_11 dX1_offer_25 (fun hk_25 => ?_)
    refine z_aload_n F dX1_offer_28 rfl ?_
    refine zg_X5_his F (by with_reducible assumption) fl_X1_69 dX1_offer_29 ?_
    refine z_aald16 F (by with_reducible assumption) (vpl 10 (by decide) (by first | with_reducible assumption | grind)) dX1_offer_32 (fun hk_32 hb_32 ho_32 => ?_)
    refine zg_X4_worth F (by with_reducible assumption) fl_X1_35 dX1_offer_33 ?_
    refine z_aload_n F dX1_offer_36 rfl ?_
    refine zg_X1_things F (by with_reducible assumption) fl_X1_11 dX1_offer_37 (fun hk_37 => ?_)
    refine z_iload F dX1_offer_40 rfl ?_
    refine z_aald16 F (by with_reducible assumption) (vpl 10 (by decide) (by first | with_reducible assumption | grind)) dX1_offer_42 (fun hk_42 hb_42 ho_42 => ?_)
    refine zg_X4_worth F (by with_reducible assumption) fl_X1_35 dX1_offer_43 ?_
    refine z_aload_n F dX1_offer_46 rfl ?_
    refine zg_X1_margin F (by with_reducible assumption) fl_X1_21 dX1_offer_47 (fun hk_47 => ?_)
    refine z_iload_n F dX1_offer_50 rfl ?_
    refine z_iald13 F (by with_reducible assumption) hpin dX1_offer_51 ?_
    rw [hpc]
    refine z_iadd F dX1_offer_52 ?_
    refine z_ic_lt (tgt := 60) F dX1_offer_53 (by decide) (fun h_53 => ?_) (fun h_53 => ?_)
    · refine z_iconst (v := 0) F dX1_offer_60 (by decide) ?_
      refine z_istore (lv' := [_, _, _, _, _, _]) F dX1_offer_61 (by decide) rfl rfl ?_
      refine z_iload F dX1_offer_63 rfl ?_
      refine z_if_eq (tgt := 97) F dX1_offer_65 (by decide) (fun h_65 => ?_) (fun h_65 => absurd h_65 (by decide))
      refine z_aload_n F dX1_offer_97 rfl ?_
      refine zg_X5_refused F (by with_reducible assumption) fl_X1_104 dX1_offer_98 ?_
      refine z_bipush (v := (-4)) F dX1_offer_101 (by decide) ?_
      refine z_ic_ne (tgt := 114) F dX1_offer_103 (by decide) (fun h_103 => ?_) (fun h_103 => ?_)
      · refine z_vret F X dX1_offer_114 ?_
        simp only [hb_32, ho_32, hb_42, ho_42] at h_53
        rw [offT, offR, if_pos h_20, if_pos h_20]
        first
          | (rw [if_pos h_53, if_pos h_53, ← zt_self M t]; simp only [zs_zt, zt_t, zt_r, zt_zt, va_up_self, va_up_ne _ _ (show (4 : Nat) ≠ 1 by decide), va_up_ne _ _ (show (4 : Nat) ≠ 0 by decide), va_up_ne _ _ (show (4 : Nat) ≠ 5 + p by omega)]; done)
          | (rw [if_neg (nle h_53), if_neg (nle h_53), if_neg h_103, zt_self]; done)
          | (rw [if_neg (nle h_53), if_neg (nle h_53), if_pos h_103]; conv => lhs; rw [← zt_self M t]
             rw [zs_ztr, zt_t]; done)
      · refine z_aload_n F dX1_offer_106 rfl ?_
        refine z_aload_n F dX1_offer_107 rfl ?_
        refine zg_X5_ahead F (by with_reducible assumption) fl_X1_79 dX1_offer_108 ?_
        refine zp_X5_refused F (by with_reducible assumption) fl_X1_104 dX1_offer_111 ?_
        refine z_vret F X dX1_offer_114 ?_
        simp only [hb_32, ho_32, hb_42, ho_42] at h_53
        rw [offT, offR, if_pos h_20, if_pos h_20]
        first
          | (rw [if_pos h_53, if_pos h_53, ← zt_self M t]; simp only [zs_zt, zt_t, zt_r, zt_zt, va_up_self, va_up_ne _ _ (show (4 : Nat) ≠ 1 by decide), va_up_ne _ _ (show (4 : Nat) ≠ 0 by decide), va_up_ne _ _ (show (4 : Nat) ≠ 5 + p by omega)]; done)
          | (rw [if_neg (nle h_53), if_neg (nle h_53), if_neg h_103, zt_self]; done)
          | (rw [if_neg (nle h_53), if_neg (nle h_53), if_pos h_103]; conv => lhs; rw [← zt_self M t]
             rw [zs_ztr, zt_t]; done)
    · refine z_iconst (v := 1) F dX1_offer_56 (by decide) ?_
      refine z_goto (tgt := 61) F dX1_offer_57 (by decide) ?_
      refine z_istore (lv' := [_, _, _, _, _, _]) F dX1_offer_61 (by decide) rfl rfl ?_
      refine z_iload F dX1_offer_63 rfl ?_
      refine z_if_eq (tgt := 97) F dX1_offer_65 (by decide) (fun h_65 => absurd h_65 (by decide)) (fun h_65 => ?_)
      refine z_aload_n F dX1_offer_68 rfl ?_
      refine zg_X5_theirs F (by with_reducible assumption) fl_X1_60 dX1_offer_69 (fun hk_69 => ?_)
      refine z_iload_n F dX1_offer_72 rfl ?_
      refine z_aload_n F dX1_offer_73 rfl ?_
      refine zg_X5_his F (by with_reducible assumption) fl_X1_69 dX1_offer_74 ?_
      refine z_iast11 F (by with_reducible assumption) hpin dX1_offer_77 ?_
      rw [hpc]
      refine z_aload_n F dX1_offer_78 rfl ?_
      refine z_iload F dX1_offer_79 rfl ?_
      refine z_callVv F (c_X5_hasNew J (by with_reducible assumption)) zm_X5_hasNew zv_X5_hasNew ml_X1_93 (by with_reducible assumption) (by decide) rfl rfl rfl (Nat.le_of_ble_eq_true rfl) dX1_offer_81 (by decide) (fun M_81 h_81 => ?_)
      replace h_81 := Eq.symm h_81
      subst h_81
      refine z_aload_n F dX1_offer_84 rfl ?_
      refine z_dup F dX1_offer_85 rfl ?_
      refine zg_X5_changes F (by with_reducible assumption) fl_X1_72 dX1_offer_86 ?_
      refine z_iconst (v := 1) F dX1_offer_89 (by decide) ?_
      refine z_iadd F dX1_offer_90 ?_
      refine zp_X5_changes F (by with_reducible assumption) fl_X1_72 dX1_offer_91 ?_
      refine z_goto (tgt := 114) F dX1_offer_94 (by decide) ?_
      refine z_vret F X dX1_offer_114 ?_
      simp only [hb_32, ho_32, hb_42, ho_42] at h_53
      rw [offT, offR, if_pos h_20, if_pos h_20]
      first
        | (rw [if_pos h_53, if_pos h_53, ← zt_self M t]; simp only [zs_zt, zt_t, zt_r, zt_zt, va_up_self, va_up_ne _ _ (show (4 : Nat) ≠ 1 by decide), va_up_ne _ _ (show (4 : Nat) ≠ 0 by decide), va_up_ne _ _ (show (4 : Nat) ≠ 5 + p by omega)]; done)
        | (rw [if_neg (nle h_53), if_neg (nle h_53), if_neg h_103, zt_self]; done)
        | (rw [if_neg (nle h_53), if_neg (nle h_53), if_pos h_103]; conv => lhs; rw [← zt_self M t]
           rw [zs_ztr, zt_t]; done)
  · replace h_20 := bI_0.mp h_20
    refine z_vret F X dX1_offer_23 ?_
    rw [offT, offR, if_neg h_20, if_neg h_20, zt_self]
theorem c_X1_pass {l : Launch} {w : zE} (J : zJ w) {M : zM} {r t np : Nat} {c : Int32} (hk : zk r = 1) (ht : zk t = 5) (hn : M.1 r 0 ≤ 10) (hnp : M.1 r 1 = nI np) (hnp9 : np ≤ 9) : zCi l w yX1_pass cX1_pass 5 (some .int) 3 [.ref (w.2.2 r), .ref (w.2.2 t), .int c] M (fun v M2 => M2 = zt M t (passF (M.1 r) (M.1 (r + 1)) (M.1 (r + 12)) np c (M.1 t, M.1 (t + 1) 0)).1 (passF (M.1 r) (M.1 (r + 1)) (M.1 (r + 12)) np c (M.1 t, M.1 (t + 1) 0)).2 ∧ v = (passF (M.1 r) (M.1 (r + 1)) (M.1 (r + 12)) np c (M.1 t, M.1 (t + 1) 0)).1 4 - M.1 t 4) := by
  obtain ⟨e1, e12, e13⟩ := zkf1 r (zk_i hk (by decide)) hk
  have e5 := zkf5 t (zk_i ht (by decide)) ht
  have q0 : ∀ T rf, (zt M t T rf).1 r = M.1 r := fun T rf => zt_off (zk_ne hk ht (by decide)) (zk_ne hk e5 (by decide))
  have q1 : ∀ T rf, (zt M t T rf).1 (r + 1) = M.1 (r + 1) := fun T rf => zt_off (zk_ne e1 ht (by decide)) (zk_ne e1 e5 (by decide))
  have q12 : ∀ T rf, (zt M t T rf).1 (r + 12) = M.1 (r + 12) := fun T rf => zt_off (zk_ne e12 ht (by decide)) (zk_ne e12 e5 (by decide))
  have qt : ∀ T rf, (zt M t T rf).1 t = T := zt_t M t
  have qr : ∀ T rf, (zt M t T rf).1 (t + 1) 0 = rf := fun T rf => by rw [zt_r, va_up_self]
  refine zCi_of J zm_X1_pass [some (.ref (w.2.2 r)), some (.ref (w.2.2 t)), some (.int c), none, none] (Nat.le_of_ble_eq_true rfl) rfl (fun g hg F X => ?_)
  subst hg
  generalize hs1 : (feelsF (M.1 r) (M.1 (r + 1)) c (M.1 t), M.1 (t + 1) 0) = s1 at X
  have key : ∀ (j k : Nat), k + j = np → ZW w g 5 25 [some (.ref (w.2.2 r)), some (.ref (w.2.2 t)), some (.int c), some (.int (M.1 t 4)), some (.int (nI k))] [] (zt M t (peoF (M.1 r) (M.1 (r + 1)) (M.1 (r + 12)) c k s1).1 (peoF (M.1 r) (M.1 (r + 1)) (M.1 (r + 12)) c k s1).2) := by
    intro j
    induction j with
    | zero =>
      intro k hkj
      have hkn : k = np := by omega
      subst hkn
      obtain ⟨s, hs⟩ : ∃ s, s = peoF (M.1 r) (M.1 (r + 1)) (M.1 (r + 12)) c k s1 := ⟨_, rfl⟩
      rw [← hs]
      have hpass : passF (M.1 r) (M.1 (r + 1)) (M.1 (r + 12)) k c (M.1 t, M.1 (t + 1) 0) = (va_up (wellF (M.1 r) (M.1 (r + 1)) s.1) 3 ((wellF (M.1 r) (M.1 (r + 1)) s.1) 3 + 1), s.2) := by
        unfold passF
        simp only [hs1, ← hs]
      refine z_iload F dX1_pass_25 rfl ?_
      refine z_aload_n F dX1_pass_27 rfl ?_
      refine zg_X1_personCount F (by with_reducible assumption) fl_X1_57 dX1_pass_28 ?_
      try simp only [qt, q0, q1, q12]
      refine z_ic_ge (tgt := 87) F dX1_pass_31 (by decide) (fun h_31 => ?_) (fun h_31 => absurd h_31 (Int32.not_lt.mpr (by rw [hnp]; exact nI_le (Nat.le_refl _) (by omega))))
      refine z_aload_n F dX1_pass_87 rfl ?_
      refine zg_X1_well F (by with_reducible assumption) fl_X1_28 dX1_pass_88 ?_
      try simp only [qt, q0, q1, q12]
      refine z_aload_n F dX1_pass_91 rfl ?_
      refine zg_X5_ahead F (by with_reducible assumption) fl_X1_79 dX1_pass_92 ?_
      try simp only [qt, q0, q1, q12]
      refine z_ic_ne (tgt := 137) F dX1_pass_95 (by decide) (fun h_95 => ?_) (fun h_95 => ?_)
      · try simp only [qt, q0, q1, q12] at h_95
        refine z_aload_n F dX1_pass_137 rfl ?_
        refine z_dup F dX1_pass_138 rfl ?_
        refine zg_X5_ahead F (by with_reducible assumption) fl_X1_79 dX1_pass_139 ?_
        try simp only [qt, q0, q1, q12]
        refine z_iconst (v := 1) F dX1_pass_142 (by decide) ?_
        refine z_iadd F dX1_pass_143 ?_
        refine zp_X5_ahead F (by with_reducible assumption) fl_X1_79 dX1_pass_144 ?_
        refine z_aload_n F dX1_pass_147 rfl ?_
        refine zg_X5_changes F (by with_reducible assumption) fl_X1_72 dX1_pass_148 ?_
        try simp only [qt, q0, q1, q12]
        refine z_iload_n F dX1_pass_151 rfl ?_
        refine z_isub F dX1_pass_152 ?_
        refine z_iret F X dX1_pass_153 ?_
        try simp only [hb_117, ho_117, q1] at h_128
        have hw := hpass
        first
          | rw [wellF, if_neg (fun q => h_95 q.1)] at hw
          | rw [wellF, if_neg (fun q => h_106 q.2.1)] at hw
          | rw [wellF, if_neg (fun q => nle h_128 q.2.2)] at hw
          | rw [wellF, if_pos ⟨h_95, h_106, h_128⟩] at hw
        rw [hw]
        simp only [zs_zt, zt_t]
        first | exact ⟨rfl, rfl⟩ | trivial
      · try simp only [qt, q0, q1, q12] at h_95
        refine z_aload_n F dX1_pass_98 rfl ?_
        refine z_aload_n F dX1_pass_99 rfl ?_
        refine zg_X5_his F (by with_reducible assumption) fl_X1_69 dX1_pass_100 ?_
        try simp only [qt, q0, q1, q12]
        refine z_callVi F (c_X1_isThing J (by with_reducible assumption)) zm_X1_isThing zv_X1_isThing ml_X1_65 (by with_reducible assumption) (by decide) rfl rfl rfl (Nat.le_of_ble_eq_true rfl) dX1_pass_103 (by decide) (fun r_103 M_103 h_103 => ?_)
        obtain ⟨e_103, rfl⟩ := h_103
        replace e_103 := Eq.symm e_103
        subst e_103
        refine z_if_eq (tgt := 137) F dX1_pass_106 (by decide) (fun h_106 => ?_) (fun h_106 => ?_)
        · replace h_106 := bI_0.mp h_106
          try simp only [qt, q0, q1, q12] at h_106
          refine z_aload_n F dX1_pass_137 rfl ?_
          refine z_dup F dX1_pass_138 rfl ?_
          refine zg_X5_ahead F (by with_reducible assumption) fl_X1_79 dX1_pass_139 ?_
          try simp only [qt, q0, q1, q12]
          refine z_iconst (v := 1) F dX1_pass_142 (by decide) ?_
          refine z_iadd F dX1_pass_143 ?_
          refine zp_X5_ahead F (by with_reducible assumption) fl_X1_79 dX1_pass_144 ?_
          refine z_aload_n F dX1_pass_147 rfl ?_
          refine zg_X5_changes F (by with_reducible assumption) fl_X1_72 dX1_pass_148 ?_
          try simp only [qt, q0, q1, q12]
          refine z_iload_n F dX1_pass_151 rfl ?_
          refine z_isub F dX1_pass_152 ?_
          refine z_iret F X dX1_pass_153 ?_
          try simp only [hb_117, ho_117, q1] at h_128
          have hw := hpass
          first
            | rw [wellF, if_neg (fun q => h_95 q.1)] at hw
            | rw [wellF, if_neg (fun q => h_106 q.2.1)] at hw
            | rw [wellF, if_neg (fun q => nle h_128 q.2.2)] at hw
            | rw [wellF, if_pos ⟨h_95, h_106, h_128⟩] at hw
          rw [hw]
          simp only [zs_zt, zt_t]
          first | exact ⟨rfl, rfl⟩ | trivial
        · replace h_106 := bI_1.mp h_106
          try simp only [qt, q0, q1, q12] at h_106
          refine z_aload_n F dX1_pass_109 rfl ?_
          refine zg_X1_things F (by with_reducible assumption) fl_X1_11 dX1_pass_110 (fun hk_110 => ?_)
          refine z_aload_n F dX1_pass_113 rfl ?_
          refine zg_X5_his F (by with_reducible assumption) fl_X1_69 dX1_pass_114 ?_
          try simp only [qt, q0, q1, q12]
          refine z_aald16 F (by with_reducible assumption) (vpl 10 (by decide) ⟨h_106.1, Int32.lt_of_lt_of_le h_106.2 hn⟩) dX1_pass_117 (fun hk_117 hb_117 ho_117 => ?_)
          refine z_iconst (v := 0) F dX1_pass_118 (by decide) ?_
          refine z_aload_n F dX1_pass_119 rfl ?_
          refine zg_X5_n F (by with_reducible assumption) fl_X1_86 dX1_pass_120 ?_
          try simp only [qt, q0, q1, q12]
          refine z_callVi F (c_X4_feltBy J (by with_reducible assumption)) zm_X4_feltBy zv_X4_feltBy ml_X1_89 (by with_reducible assumption) (by decide) rfl rfl rfl (Nat.le_of_ble_eq_true rfl) dX1_pass_123 (by decide) (fun r_123 M_123 h_123 => ?_)
          obtain ⟨e_123, rfl⟩ := h_123
          replace e_123 := Eq.symm e_123
          subst e_123
          refine z_bipush (v := 10) F dX1_pass_126 (by decide) ?_
          refine z_ic_lt (tgt := 137) F dX1_pass_128 (by decide) (fun h_128 => ?_) (fun h_128 => ?_)
          · try simp only [qt, q0, q1, q12] at h_128
            refine z_aload_n F dX1_pass_137 rfl ?_
            refine z_dup F dX1_pass_138 rfl ?_
            refine zg_X5_ahead F (by with_reducible assumption) fl_X1_79 dX1_pass_139 ?_
            try simp only [qt, q0, q1, q12]
            refine z_iconst (v := 1) F dX1_pass_142 (by decide) ?_
            refine z_iadd F dX1_pass_143 ?_
            refine zp_X5_ahead F (by with_reducible assumption) fl_X1_79 dX1_pass_144 ?_
            refine z_aload_n F dX1_pass_147 rfl ?_
            refine zg_X5_changes F (by with_reducible assumption) fl_X1_72 dX1_pass_148 ?_
            try simp only [qt, q0, q1, q12]
            refine z_iload_n F dX1_pass_151 rfl ?_
            refine z_isub F dX1_pass_152 ?_
            refine z_iret F X dX1_pass_153 ?_
            try simp only [hb_117, ho_117, q1] at h_128
            have hw := hpass
            first
              | rw [wellF, if_neg (fun q => h_95 q.1)] at hw
              | rw [wellF, if_neg (fun q => h_106 q.2.1)] at hw
              | rw [wellF, if_neg (fun q => nle h_128 q.2.2)] at hw
              | rw [wellF, if_pos ⟨h_95, h_106, h_128⟩] at hw
            rw [hw]
            simp only [zs_zt, zt_t]
            first | exact ⟨rfl, rfl⟩ | trivial
          · try simp only [qt, q0, q1, q12] at h_128
            refine z_aload_n F dX1_pass_131 rfl ?_
            refine z_bipush (v := (-4)) F dX1_pass_132 (by decide) ?_
            refine z_callVv F (c_X5_hasNew J (by with_reducible assumption)) zm_X5_hasNew zv_X5_hasNew ml_X1_93 (by with_reducible assumption) (by decide) rfl rfl rfl (Nat.le_of_ble_eq_true rfl) dX1_pass_134 (by decide) (fun M_134 h_134 => ?_)
            replace h_134 := Eq.symm h_134
            subst h_134
            refine z_aload_n F dX1_pass_137 rfl ?_
            refine z_dup F dX1_pass_138 rfl ?_
            refine zg_X5_ahead F (by with_reducible assumption) fl_X1_79 dX1_pass_139 ?_
            try simp only [qt, q0, q1, q12]
            refine z_iconst (v := 1) F dX1_pass_142 (by decide) ?_
            refine z_iadd F dX1_pass_143 ?_
            refine zp_X5_ahead F (by with_reducible assumption) fl_X1_79 dX1_pass_144 ?_
            refine z_aload_n F dX1_pass_147 rfl ?_
            refine zg_X5_changes F (by with_reducible assumption) fl_X1_72 dX1_pass_148 ?_
            try simp only [qt, q0, q1, q12]
            refine z_iload_n F dX1_pass_151 rfl ?_
            refine z_isub F dX1_pass_152 ?_
            refine z_iret F X dX1_pass_153 ?_
            try simp only [hb_117, ho_117, q1] at h_128
            have hw := hpass
            first
              | rw [wellF, if_neg (fun q => h_95 q.1)] at hw
              | rw [wellF, if_neg (fun q => h_106 q.2.1)] at hw
              | rw [wellF, if_neg (fun q => nle h_128 q.2.2)] at hw
              | rw [wellF, if_pos ⟨h_95, h_106, h_128⟩] at hw
            rw [hw]
            simp only [zs_zt, zt_t]
            first | exact ⟨rfl, rfl⟩ | trivial
    | succ j ih =>
      intro k hkj
      have hpin : vp_in (nI k) 9 := vp_in_nI (by omega) (by decide)
      have hpc : (nI k).toNatClampNeg = k := nI_clamp (by omega)
      have ih2 := ih (k + 1) (by omega)
      rw [← nI_1, peoF] at ih2
      generalize peoF (M.1 r) (M.1 (r + 1)) (M.1 (r + 12)) c k s1 = s at ih2 ⊢
      refine z_iload F dX1_pass_25 rfl ?_
      refine z_aload_n F dX1_pass_27 rfl ?_
      refine zg_X1_personCount F (by with_reducible assumption) fl_X1_57 dX1_pass_28 ?_
      try simp only [qt, q0, q1, q12, hpc]
      refine z_ic_ge (tgt := 87) F dX1_pass_31 (by decide) (fun h_31 => absurd h_31 (Int32.not_le.mpr (by rw [hnp]; exact nI_lt (by omega) (by omega)))) (fun h_31 => ?_)
      refine z_aload_n F dX1_pass_34 rfl ?_
      refine zg_X1_where F (by with_reducible assumption) fl_X1_17 dX1_pass_35 (fun hk_35 => ?_)
      refine z_iload F dX1_pass_38 rfl ?_
      refine z_iald12 F (by with_reducible assumption) hpin dX1_pass_40 ?_
      try simp only [qt, q0, q1, q12, hpc]
      refine z_aload_n F dX1_pass_41 rfl ?_
      refine zg_X5_ahead F (by with_reducible assumption) fl_X1_79 dX1_pass_42 ?_
      try simp only [qt, q0, q1, q12, hpc]
      refine z_ic_ne (tgt := 81) F dX1_pass_45 (by decide) (fun h_45 => ?_) (fun h_45 => ?_)
      · try simp only [qt, q0, q1, q12, hpc] at h_45
        refine z_iincc (c := 1) (lv' := [_, _, _, _, _]) F dX1_pass_81 rfl (by decide) (by decide) rfl rfl ?_
        refine z_goto (tgt := 25) F dX1_pass_84 (by decide) ?_
        first
          | (rw [stepF, if_neg (fun q => h_45 q.1)] at ih2; exact ih2)
          | (rw [stepF, if_neg (fun q => h_56 q.2.1)] at ih2; exact ih2)
          | (rw [stepF, if_neg (fun q => h_70 q.2.2)] at ih2; exact ih2)
          | (rw [stepF, if_pos ⟨h_45, h_56, h_70⟩] at ih2; simp only [qt, q0, q1, q12, qr, zt_zt]; exact ih2)
      · try simp only [qt, q0, q1, q12, hpc] at h_45
        refine z_aload_n F dX1_pass_48 rfl ?_
        refine z_aload_n F dX1_pass_49 rfl ?_
        refine zg_X5_his F (by with_reducible assumption) fl_X1_69 dX1_pass_50 ?_
        try simp only [qt, q0, q1, q12, hpc]
        refine z_callVi F (c_X1_isThing J (by with_reducible assumption)) zm_X1_isThing zv_X1_isThing ml_X1_65 (by with_reducible assumption) (by decide) rfl rfl rfl (Nat.le_of_ble_eq_true rfl) dX1_pass_53 (by decide) (fun r_53 M_53 h_53 => ?_)
        obtain ⟨e_53, rfl⟩ := h_53
        replace e_53 := Eq.symm e_53
        subst e_53
        refine z_if_eq (tgt := 81) F dX1_pass_56 (by decide) (fun h_56 => ?_) (fun h_56 => ?_)
        · replace h_56 := bI_0.mp h_56
          try simp only [qt, q0, q1, q12, hpc] at h_56
          refine z_iincc (c := 1) (lv' := [_, _, _, _, _]) F dX1_pass_81 rfl (by decide) (by decide) rfl rfl ?_
          refine z_goto (tgt := 25) F dX1_pass_84 (by decide) ?_
          first
            | (rw [stepF, if_neg (fun q => h_45 q.1)] at ih2; exact ih2)
            | (rw [stepF, if_neg (fun q => h_56 q.2.1)] at ih2; exact ih2)
            | (rw [stepF, if_neg (fun q => h_70 q.2.2)] at ih2; exact ih2)
            | (rw [stepF, if_pos ⟨h_45, h_56, h_70⟩] at ih2; simp only [qt, q0, q1, q12, qr, zt_zt]; exact ih2)
        · replace h_56 := bI_1.mp h_56
          try simp only [qt, q0, q1, q12, hpc] at h_56
          refine z_aload_n F dX1_pass_59 rfl ?_
          refine z_aload_n F dX1_pass_60 rfl ?_
          refine zg_X5_theirs F (by with_reducible assumption) fl_X1_60 dX1_pass_61 (fun hk_61 => ?_)
          refine z_iload F dX1_pass_64 rfl ?_
          refine z_iald11 F (by with_reducible assumption) hpin dX1_pass_66 ?_
          try simp only [qt, q0, q1, q12, hpc]
          refine z_callVi F (c_X1_isThing J (by with_reducible assumption)) zm_X1_isThing zv_X1_isThing ml_X1_65 (by with_reducible assumption) (by decide) rfl rfl rfl (Nat.le_of_ble_eq_true rfl) dX1_pass_67 (by decide) (fun r_67 M_67 h_67 => ?_)
          obtain ⟨e_67, rfl⟩ := h_67
          replace e_67 := Eq.symm e_67
          subst e_67
          refine z_if_eq (tgt := 81) F dX1_pass_70 (by decide) (fun h_70 => ?_) (fun h_70 => ?_)
          · replace h_70 := bI_0.mp h_70
            try simp only [qt, q0, q1, q12, hpc] at h_70
            refine z_iincc (c := 1) (lv' := [_, _, _, _, _]) F dX1_pass_81 rfl (by decide) (by decide) rfl rfl ?_
            refine z_goto (tgt := 25) F dX1_pass_84 (by decide) ?_
            first
              | (rw [stepF, if_neg (fun q => h_45 q.1)] at ih2; exact ih2)
              | (rw [stepF, if_neg (fun q => h_56 q.2.1)] at ih2; exact ih2)
              | (rw [stepF, if_neg (fun q => h_70 q.2.2)] at ih2; exact ih2)
              | (rw [stepF, if_pos ⟨h_45, h_56, h_70⟩] at ih2; simp only [qt, q0, q1, q12, qr, zt_zt]; exact ih2)
          · replace h_70 := bI_1.mp h_70
            try simp only [qt, q0, q1, q12, hpc] at h_70
            refine z_aload_n F dX1_pass_73 rfl ?_
            refine z_aload_n F dX1_pass_74 rfl ?_
            refine z_iload F dX1_pass_75 rfl ?_
            refine z_iload_n F dX1_pass_77 rfl ?_
            refine z_callVv F (c_X1_offer J hk ht (by rw [qt]; exact ⟨h_56.1, Int32.lt_of_lt_of_le h_56.2 hn⟩) (show k < 9 by omega) (by rw [qt]; exact ⟨h_70.1, Int32.lt_of_lt_of_le h_70.2 hn⟩)) zm_X1_offer zv_X1_offer ml_X1_82 (by with_reducible assumption) (by decide) rfl rfl rfl (Nat.le_of_ble_eq_true rfl) dX1_pass_78 (by decide) (fun M_78 h_78 => ?_)
            replace h_78 := Eq.symm h_78
            subst h_78
            refine z_iincc (c := 1) (lv' := [_, _, _, _, _]) F dX1_pass_81 rfl (by decide) (by decide) rfl rfl ?_
            refine z_goto (tgt := 25) F dX1_pass_84 (by decide) ?_
            first
              | (rw [stepF, if_neg (fun q => h_45 q.1)] at ih2; exact ih2)
              | (rw [stepF, if_neg (fun q => h_56 q.2.1)] at ih2; exact ih2)
              | (rw [stepF, if_neg (fun q => h_70 q.2.2)] at ih2; exact ih2)
              | (rw [stepF, if_pos ⟨h_45, h_56, h_70⟩] at ih2; simp only [qt, q0, q1, q12, qr, zt_zt]; exact ih2)
  have k0 := key np 0 (by omega)
  refine z_aload_n F dX1_pass_0 rfl ?_
  refine zg_X5_changes F (by with_reducible assumption) fl_X1_72 dX1_pass_1 ?_
  refine z_istore_n (lv' := [_, _, _, _, _]) F dX1_pass_4 (by decide) rfl rfl ?_
  refine z_aload_n F dX1_pass_5 rfl ?_
  refine z_aload_n F dX1_pass_6 rfl ?_
  refine zg_X5_his F (by with_reducible assumption) fl_X1_69 dX1_pass_7 ?_
  refine z_callVi F (c_X1_isThing J (by with_reducible assumption)) zm_X1_isThing zv_X1_isThing ml_X1_65 (by with_reducible assumption) (by decide) rfl rfl rfl (Nat.le_of_ble_eq_true rfl) dX1_pass_10 (by decide) (fun r_10 M_10 h_10 => ?_)
  obtain ⟨e_10, rfl⟩ := h_10
  replace e_10 := Eq.symm e_10
  subst e_10
  refine z_if_eq (tgt := 22) F dX1_pass_13 (by decide) (fun h_13 => ?_) (fun h_13 => ?_)
  · replace h_13 := bI_0.mp h_13
    refine z_iconst (v := 0) F dX1_pass_22 (by decide) ?_
    refine z_istore (lv' := [_, _, _, _, _]) F dX1_pass_23 (by decide) rfl rfl ?_
    first
      | (rw [feelsF, if_pos h_13] at hs1; subst hs1; rw [za_zt]; exact k0)
      | (rw [feelsF, if_neg h_13] at hs1; subst hs1; rw [peoF, zt_self] at k0; exact k0)
  · replace h_13 := bI_1.mp h_13
    refine z_aload_n F dX1_pass_16 rfl ?_
    refine z_aload_n F dX1_pass_17 rfl ?_
    refine z_iload_n F dX1_pass_18 rfl ?_
    refine z_callVv F (c_X1_feelOneMore J (by with_reducible assumption) (by with_reducible assumption) ⟨h_13.1, Int32.lt_of_lt_of_le h_13.2 hn⟩) zm_X1_feelOneMore zv_X1_feelOneMore ml_X1_75 (by with_reducible assumption) (by decide) rfl rfl rfl (Nat.le_of_ble_eq_true rfl) dX1_pass_19 (by decide) (fun M_19 h_19 => ?_)
    replace h_19 := Eq.symm h_19
    subst h_19
    refine z_iconst (v := 0) F dX1_pass_22 (by decide) ?_
    refine z_istore (lv' := [_, _, _, _, _]) F dX1_pass_23 (by decide) rfl rfl ?_
    first
      | (rw [feelsF, if_pos h_13] at hs1; subst hs1; rw [za_zt]; exact k0)
      | (rw [feelsF, if_neg h_13] at hs1; subst hs1; rw [peoF, zt_self] at k0; exact k0)
