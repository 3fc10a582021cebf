theorem c_X1_worthOf {l : Launch} {w : zE} (J : zJ w) {M : zM} {r : Nat} {x : Int32} (hk : zk r = 1) (hn : M.1 r 0 ≤ 10) : zCi l w yX1_worthOf cX1_worthOf 2 (some .int) 1 [.ref (w.2.2 r), .int x] M (fun v M2 => M2 = M ∧ v = worthO (M.1 (r + 1)) (M.1 r 0) x) := by
  refine zCi_of J zm_X1_worthOf [some (.ref (w.2.2 r)), some (.int x)] (Nat.le_of_ble_eq_true rfl) rfl (fun g hg F X => ?_)
  subst hg
  refine z_aload_n F dX1_worthOf_0 rfl ?_
  refine z_iload_n F dX1_worthOf_1 rfl ?_
  refine z_callVi F (c_X1_isThing J (by assumption)) zm_X1_isThing zv_X1_isThing ml_X1_65 (by assumption) (by decide) rfl rfl rfl (Nat.le_of_ble_eq_true rfl) dX1_worthOf_2 (by decide) (fun r_2 M_2 h_2 => ?_)
  obtain ⟨e_2, rfl⟩ := h_2
  replace e_2 := Eq.symm e_2
  subst e_2
  refine z_if_eq (tgt := 20) F dX1_worthOf_5 (by decide) (fun h_5 => ?_) (fun h_5 => ?_)
  · rw [bI_0] at h_5
    refine z_iconst (v := 0) F dX1_worthOf_20 (by decide) ?_
    refine z_iret F X dX1_worthOf_21 ?_
    first | exact ⟨rfl, by rw [hb_13, ho_13, worthO, if_pos h_5]⟩ | exact ⟨rfl, by rw [worthO, if_neg h_5]⟩
  · rw [bI_1] at h_5
    refine z_aload_n F dX1_worthOf_8 rfl ?_
    refine zg_X1_things F (by assumption) fl_X1_11 dX1_worthOf_9 (fun hk_9 => ?_)
    refine z_iload_n F dX1_worthOf_12 rfl ?_
    refine z_aald16 F (by assumption) (vpl 10 (by decide) (by first | assumption | grind)) dX1_worthOf_13 (fun hk_13 hb_13 ho_13 => ?_)
    refine zg_X4_worth F (by assumption) fl_X1_35 dX1_worthOf_14 ?_
    refine z_goto (tgt := 21) F dX1_worthOf_17 (by decide) ?_
    refine z_iret F X dX1_worthOf_21 ?_
    first | exact ⟨rfl, by rw [hb_13, ho_13, worthO, if_pos h_5]⟩ | exact ⟨rfl, by rw [worthO, if_neg h_5]⟩
theorem c_X1_feelOneMore {l : Launch} {w : zE} (J : zJ w) {M : zM} {r t : Nat} {c : Int32} (hk : zk r = 1) (ht : zk t = 5) (hh : 0 ≤ M.1 t 0 ∧ M.1 t 0 < 10) : zCv l w yX1_feelOneMore cX1_feelOneMore 5 1 [.ref (w.2.2 r), .ref (w.2.2 t), .int c] M (fun M2 => M2 = za M t (feelF (M.1 (r + 1)) c (M.1 t))) := by
  have e1 := (zkf1 r (zk_i hk (by decide)) hk).1
  have n1 : r + 1 ≠ t := zk_ne e1 ht (by decide)
  refine zCv_of J zm_X1_feelOneMore [some (.ref (w.2.2 r)), some (.ref (w.2.2 t)), some (.int c), none, none] (Nat.le_of_ble_eq_true rfl) rfl (fun g hg F X => ?_)
  subst hg
  refine z_aload_n F dX1_feelOneMore_0 rfl ?_
  refine z_dup F dX1_feelOneMore_1 rfl ?_
  refine zg_X5_n F (by assumption) fl_X1_86 dX1_feelOneMore_2 ?_
  refine z_iconst (v := 1) F dX1_feelOneMore_5 (by decide) ?_
  refine z_iadd F dX1_feelOneMore_6 ?_
  refine zp_X5_n F (by assumption) fl_X1_86 dX1_feelOneMore_7 ?_
  refine z_aload_n F dX1_feelOneMore_10 rfl ?_
  refine zg_X1_things F (by assumption) fl_X1_11 dX1_feelOneMore_11 (fun hk_11 => ?_)
  refine z_aload_n F dX1_feelOneMore_14 rfl ?_
  refine zg_X5_his F (by assumption) fl_X1_69 dX1_feelOneMore_15 ?_
  rw [zs_at, va_up_ne _ _ (by decide)]
  refine z_aald16 F (by assumption) (vpl 10 (by decide) hh) dX1_feelOneMore_18 (fun hk_18 hb_18 ho_18 => ?_)
  refine z_astore_n (lv' := [_, _, _, _, _]) F dX1_feelOneMore_19 (by decide) rfl rfl ?_
  refine z_aload_n F dX1_feelOneMore_20 rfl ?_
  refine z_iconst (v := 0) F dX1_feelOneMore_21 (by decide) ?_
  refine z_aload_n F dX1_feelOneMore_22 rfl ?_
  refine zg_X5_n F (by assumption) fl_X1_86 dX1_feelOneMore_23 ?_
  refine z_callVi F (c_X4_feltBy J (by assumption)) zm_X4_feltBy zv_X4_feltBy ml_X1_89 (by assumption) (by decide) rfl rfl rfl (Nat.le_of_ble_eq_true rfl) dX1_feelOneMore_26 (by decide) (fun r_26 M_26 h_26 => ?_)
  obtain ⟨e_26, rfl⟩ := h_26
  replace e_26 := Eq.symm e_26
  subst e_26
  refine z_aload_n F dX1_feelOneMore_29 rfl ?_
  refine z_iconst (v := 1) F dX1_feelOneMore_30 (by decide) ?_
  refine z_aload_n F dX1_feelOneMore_31 rfl ?_
  refine zg_X5_n F (by assumption) fl_X1_86 dX1_feelOneMore_32 ?_
  refine z_callVi F (c_X4_feltBy J (by assumption)) zm_X4_feltBy zv_X4_feltBy ml_X1_89 (by assumption) (by decide) rfl rfl rfl (Nat.le_of_ble_eq_true rfl) dX1_feelOneMore_35 (by decide) (fun r_35 M_35 h_35 => ?_)
  obtain ⟨e_35, rfl⟩ := h_35
  replace e_35 := Eq.symm e_35
  subst e_35
  refine z_iload_n F dX1_feelOneMore_38 rfl ?_
  refine z_imul F dX1_feelOneMore_39 ?_
  refine z_ic_lt (tgt := 47) F dX1_feelOneMore_40 (by decide) (fun h_40 => ?_) (fun h_40 => ?_)
  · refine z_iconst (v := 0) F dX1_feelOneMore_47 (by decide) ?_
    refine z_istore (lv' := [_, _, _, _, _]) F dX1_feelOneMore_48 (by decide) rfl rfl ?_
    refine z_aload_n F dX1_feelOneMore_50 rfl ?_
    refine z_iload F dX1_feelOneMore_51 rfl ?_
    refine z_if_eq (tgt := 60) F dX1_feelOneMore_53 (by decide) (fun h_53 => ?_) (fun h_53 => absurd h_53 (by decide))
    refine z_iconst (v := 1) F dX1_feelOneMore_60 (by decide) ?_
    refine zp_X5_mind F (by assumption) fl_X1_97 dX1_feelOneMore_61 ?_
    refine z_vret F X dX1_feelOneMore_64 ?_
    simp only [hb_18, ho_18, zs_at, va_up_self, zs_off _ n1] at h_40
    simp only [zs_za, za_za, za_at]
    first | rw [feelF, if_pos h_40] | rw [feelF, if_neg (nle h_40)]
  · refine z_iconst (v := 1) F dX1_feelOneMore_43 (by decide) ?_
    refine z_goto (tgt := 48) F dX1_feelOneMore_44 (by decide) ?_
    refine z_istore (lv' := [_, _, _, _, _]) F dX1_feelOneMore_48 (by decide) rfl rfl ?_
    refine z_aload_n F dX1_feelOneMore_50 rfl ?_
    refine z_iload F dX1_feelOneMore_51 rfl ?_
    refine z_if_eq (tgt := 60) F dX1_feelOneMore_53 (by decide) (fun h_53 => absurd h_53 (by decide)) (fun h_53 => ?_)
    refine z_iconst (v := 0) F dX1_feelOneMore_56 (by decide) ?_
    refine z_goto (tgt := 61) F dX1_feelOneMore_57 (by decide) ?_
    refine zp_X5_mind F (by assumption) fl_X1_97 dX1_feelOneMore_61 ?_
    refine z_vret F X dX1_feelOneMore_64 ?_
    simp only [hb_18, ho_18, zs_at, va_up_self, zs_off _ n1] at h_40
    simp only [zs_za, za_za, za_at]
    first | rw [feelF, if_pos h_40] | rw [feelF, if_neg (nle h_40)]
theorem c_X1_isGlad {l : Launch} {w : zE} (J : zJ w) {M : zM} {r t : Nat} {x hd c : Int32} (hk : zk r = 1) (ht : zk t = 5) (hh : 0 ≤ M.1 t 0 ∧ M.1 t 0 < 10) (hx : 0 ≤ x ∧ x < 10) : zCi l w yX1_isGlad cX1_isGlad 8 (some .boolean) 1 [.ref (w.2.2 r), .ref (w.2.2 t), .int x, .int hd, .int c] M (fun v M2 => M2 = M ∧ v = bI (gladF (M.1 (r + 1)) c hd (M.1 t) x)) := by
  refine zCi_of J zm_X1_isGlad [some (.ref (w.2.2 r)), some (.ref (w.2.2 t)), some (.int x), some (.int hd), some (.int c), none, none, none] (Nat.le_of_ble_eq_true rfl) rfl (fun g hg F X => ?_)
  subst hg
  refine z_aload_n F dX1_isGlad_0 rfl ?_
  refine zg_X1_things F (by assumption) fl_X1_11 dX1_isGlad_1 (fun hk_1 => ?_)
  refine z_aload_n F dX1_isGlad_4 rfl ?_
  refine zg_X5_his F (by assumption) fl_X1_69 dX1_isGlad_5 ?_
  refine z_aald16 F (by assumption) (vpl 10 (by decide) (by first | assumption | grind)) dX1_isGlad_8 (fun hk_8 hb_8 ho_8 => ?_)
  refine z_astore (lv' := [_, _, _, _, _, _, _, _]) F dX1_isGlad_9 (by decide) rfl rfl ?_
  refine z_aload_n F dX1_isGlad_11 rfl ?_
  refine zg_X1_things F (by assumption) fl_X1_11 dX1_isGlad_12 (fun hk_12 => ?_)
  refine z_iload_n F dX1_isGlad_15 rfl ?_
  refine z_aald16 F (by assumption) (vpl 10 (by decide) (by first | assumption | grind)) dX1_isGlad_16 (fun hk_16 hb_16 ho_16 => ?_)
  refine z_astore (lv' := [_, _, _, _, _, _, _, _]) F dX1_isGlad_17 (by decide) rfl rfl ?_
  refine z_aload_n F dX1_isGlad_19 rfl ?_
  refine zg_X5_mind F (by assumption) fl_X1_97 dX1_isGlad_20 ?_
  refine z_iconst (v := 1) F dX1_isGlad_23 (by decide) ?_
  refine z_ic_ne (tgt := 32) F dX1_isGlad_24 (by decide) (fun h_24 => ?_) (fun h_24 => ?_)
  · refine z_iconst (v := 1) F dX1_isGlad_32 (by decide) ?_
    refine z_istore (lv' := [_, _, _, _, _, _, _, _]) F dX1_isGlad_33 (by decide) rfl rfl ?_
    refine z_aload F dX1_isGlad_35 rfl ?_
    refine z_aload_n F dX1_isGlad_37 rfl ?_
    refine zg_X5_mind F (by assumption) fl_X1_97 dX1_isGlad_38 ?_
    refine z_aload_n F dX1_isGlad_41 rfl ?_
    refine zg_X5_n F (by assumption) fl_X1_86 dX1_isGlad_42 ?_
    refine z_callVi F (c_X4_feltBy J (by assumption)) zm_X4_feltBy zv_X4_feltBy ml_X1_89 (by assumption) (by decide) rfl rfl rfl (Nat.le_of_ble_eq_true rfl) dX1_isGlad_45 (by decide) (fun r_45 M_45 h_45 => ?_)
    obtain ⟨e_45, rfl⟩ := h_45
    replace e_45 := Eq.symm e_45
    subst e_45
    refine z_iload F dX1_isGlad_48 rfl ?_
    refine z_imul F dX1_isGlad_50 ?_
    refine z_aload F dX1_isGlad_51 rfl ?_
    refine z_aload_n F dX1_isGlad_53 rfl ?_
    refine zg_X5_mind F (by assumption) fl_X1_97 dX1_isGlad_54 ?_
    refine z_iconst (v := 0) F dX1_isGlad_57 (by decide) ?_
    refine z_callVi F (c_X4_feltBy J (by assumption)) zm_X4_feltBy zv_X4_feltBy ml_X1_89 (by assumption) (by decide) rfl rfl rfl (Nat.le_of_ble_eq_true rfl) dX1_isGlad_58 (by decide) (fun r_58 M_58 h_58 => ?_)
    obtain ⟨e_58, rfl⟩ := h_58
    replace e_58 := Eq.symm e_58
    subst e_58
    refine z_ic_le (tgt := 83) F dX1_isGlad_61 (by decide) (fun h_61 => ?_) (fun h_61 => ?_)
    · refine z_iconst (v := 0) F dX1_isGlad_83 (by decide) ?_
      refine z_zret F X dX1_isGlad_84 (by decide) ?_
      refine ⟨rfl, ?_⟩
      try simp only [hb_8, ho_8, hb_16, ho_16] at h_61
      try simp only [hb_8, ho_8, hb_16, ho_16] at h_76
      first | simp only [gladF, timesF_1 h_24] | simp only [gladF, timesF_0 h_24]
      first | exact bI_t ⟨h_61, h_76⟩ | exact bI_f (fun q => nlt h_61 q.1) | exact bI_f (fun q => nle h_76 q.2)
    · refine z_aload F dX1_isGlad_64 rfl ?_
      refine zg_X4_worth F (by assumption) fl_X1_35 dX1_isGlad_66 ?_
      refine z_aload F dX1_isGlad_69 rfl ?_
      refine zg_X4_worth F (by assumption) fl_X1_35 dX1_isGlad_71 ?_
      refine z_isub F dX1_isGlad_74 ?_
      refine z_iload_n F dX1_isGlad_75 rfl ?_
      refine z_ic_gt (tgt := 83) F dX1_isGlad_76 (by decide) (fun h_76 => ?_) (fun h_76 => ?_)
      · refine z_iconst (v := 0) F dX1_isGlad_83 (by decide) ?_
        refine z_zret F X dX1_isGlad_84 (by decide) ?_
        refine ⟨rfl, ?_⟩
        try simp only [hb_8, ho_8, hb_16, ho_16] at h_61
        try simp only [hb_8, ho_8, hb_16, ho_16] at h_76
        first | simp only [gladF, timesF_1 h_24] | simp only [gladF, timesF_0 h_24]
        first | exact bI_t ⟨h_61, h_76⟩ | exact bI_f (fun q => nlt h_61 q.1) | exact bI_f (fun q => nle h_76 q.2)
      · refine z_iconst (v := 1) F dX1_isGlad_79 (by decide) ?_
        refine z_goto (tgt := 84) F dX1_isGlad_80 (by decide) ?_
        refine z_zret F X dX1_isGlad_84 (by decide) ?_
        refine ⟨rfl, ?_⟩
        try simp only [hb_8, ho_8, hb_16, ho_16] at h_61
        try simp only [hb_8, ho_8, hb_16, ho_16] at h_76
        first | simp only [gladF, timesF_1 h_24] | simp only [gladF, timesF_0 h_24]
        first | exact bI_t ⟨h_61, h_76⟩ | exact bI_f (fun q => nlt h_61 q.1) | exact bI_f (fun q => nle h_76 q.2)
  · refine z_iload F dX1_isGlad_27 rfl ?_
    refine z_goto (tgt := 33) F dX1_isGlad_29 (by decide) ?_
    refine z_istore (lv' := [_, _, _, _, _, _, _, _]) F dX1_isGlad_33 (by decide) rfl rfl ?_
    refine z_aload F dX1_isGlad_35 rfl ?_
    refine z_aload_n F dX1_isGlad_37 rfl ?_
    refine zg_X5_mind F (by assumption) fl_X1_97 dX1_isGlad_38 ?_
    refine z_aload_n F dX1_isGlad_41 rfl ?_
    refine zg_X5_n F (by assumption) fl_X1_86 dX1_isGlad_42 ?_
    refine z_callVi F (c_X4_feltBy J (by assumption)) zm_X4_feltBy zv_X4_feltBy ml_X1_89 (by assumption) (by decide) rfl rfl rfl (Nat.le_of_ble_eq_true rfl) dX1_isGlad_45 (by decide) (fun r_45 M_45 h_45 => ?_)
    obtain ⟨e_45, rfl⟩ := h_45
    replace e_45 := Eq.symm e_45
    subst e_45
    refine z_iload F dX1_isGlad_48 rfl ?_
    refine z_imul F dX1_isGlad_50 ?_
    refine z_aload F dX1_isGlad_51 rfl ?_
    refine z_aload_n F dX1_isGlad_53 rfl ?_
    refine zg_X5_mind F (by assumption) fl_X1_97 dX1_isGlad_54 ?_
    refine z_iconst (v := 0) F dX1_isGlad_57 (by decide) ?_
    refine z_callVi F (c_X4_feltBy J (by assumption)) zm_X4_feltBy zv_X4_feltBy ml_X1_89 (by assumption) (by decide) rfl rfl rfl (Nat.le_of_ble_eq_true rfl) dX1_isGlad_58 (by decide) (fun r_58 M_58 h_58 => ?_)
    obtain ⟨e_58, rfl⟩ := h_58
    replace e_58 := Eq.symm e_58
    subst e_58
    refine z_ic_le (tgt := 83) F dX1_isGlad_61 (by decide) (fun h_61 => ?_) (fun h_61 => ?_)
    · refine z_iconst (v := 0) F dX1_isGlad_83 (by decide) ?_
      refine z_zret F X dX1_isGlad_84 (by decide) ?_
      refine ⟨rfl, ?_⟩
      try simp only [hb_8, ho_8, hb_16, ho_16] at h_61
      try simp only [hb_8, ho_8, hb_16, ho_16] at h_76
      first | simp only [gladF, timesF_1 h_24] | simp only [gladF, timesF_0 h_24]
      first | exact bI_t ⟨h_61, h_76⟩ | exact bI_f (fun q => nlt h_61 q.1) | exact bI_f (fun q => nle h_76 q.2)
    · refine z_aload F dX1_isGlad_64 rfl ?_
      refine zg_X4_worth F (by assumption) fl_X1_35 dX1_isGlad_66 ?_
      refine z_aload F dX1_isGlad_69 rfl ?_
      refine zg_X4_worth F (by assumption) fl_X1_35 dX1_isGlad_71 ?_
      refine z_isub F dX1_isGlad_74 ?_
      refine z_iload_n F dX1_isGlad_75 rfl ?_
      refine z_ic_gt (tgt := 83) F dX1_isGlad_76 (by decide) (fun h_76 => ?_) (fun h_76 => ?_)
      · refine z_iconst (v := 0) F dX1_isGlad_83 (by decide) ?_
        refine z_zret F X dX1_isGlad_84 (by decide) ?_
        refine ⟨rfl, ?_⟩
        try simp only [hb_8, ho_8, hb_16, ho_16] at h_61
        try simp only [hb_8, ho_8, hb_16, ho_16] at h_76
        first | simp only [gladF, timesF_1 h_24] | simp only [gladF, timesF_0 h_24]
        first | exact bI_t ⟨h_61, h_76⟩ | exact bI_f (fun q => nlt h_61 q.1) | exact bI_f (fun q => nle h_76 q.2)
      · refine z_iconst (v := 1) F dX1_isGlad_79 (by decide) ?_
        refine z_goto (tgt := 84) F dX1_isGlad_80 (by decide) ?_
        refine z_zret F X dX1_isGlad_84 (by decide) ?_
        refine ⟨rfl, ?_⟩
        try simp only [hb_8, ho_8, hb_16, ho_16] at h_61
        try simp only [hb_8, ho_8, hb_16, ho_16] at h_76
        first | simp only [gladF, timesF_1 h_24] | simp only [gladF, timesF_0 h_24]
        first | exact bI_t ⟨h_61, h_76⟩ | exact bI_f (fun q => nlt h_61 q.1) | exact bI_f (fun q => nle h_76 q.2)

theorem c_X1_offer {l : Launch} {w : zE} (J : zJ w) {M : zM} {r t p : Nat} {c : Int32} (hk : zk r = 1) (ht : zk t = 5) (hh : 0 ≤ M.1 t 0 ∧ M.1 t 0 < 10) (hp : p < 9) (hx : 0 ≤ M.1 t (5 + p) ∧ M.1 t (5 + p) < 10) : zCv l w yX1_offer cX1_offer 6 2 [.ref (w.2.2 r), .ref (w.2.2 t), .int (nI p), .int c] M (fun M2 => M2 = za (za M t (offT (M.1 (r + 1)) (M.1 (r + 12) (2 * p + 1)) (M.1 r 2) c (5 + p) (M.1 t))) (t + 1) (va_up (M.1 (t + 1)) 0 (offR (M.1 (r + 1)) (M.1 (r + 12) (2 * p + 1)) (M.1 r 2) c (5 + p) (M.1 t) (M.1 (t + 1) 0)))) := by
  have e1 := (zkf1 r (zk_i hk (by decide)) hk).1
  have e5 := zkf5 t (zk_i ht (by decide)) ht
  have n1 : r + 1 ≠ t := zk_ne e1 ht (by decide)
  have n2 : t + 1 ≠ t := by omega
  have hpin : vp_in (nI p) 9 := vp_in_nI hp (by decide)
  have hpc : (nI p).toNatClampNeg = p := nI_clamp (by omega)
  refine zCv_of J zm_X1_offer [some (.ref (w.2.2 r)), some (.ref (w.2.2 t)), some (.int (nI p)), some (.int c), none, none] (Nat.le_of_ble_eq_true rfl) rfl (fun g hg F X => ?_)
  subst hg
  refine z_aload_n F dX1_offer_0 rfl ?_
  refine zg_X5_theirs F (by assumption) fl_X1_60 dX1_offer_1 (fun hk_1 => ?_)
  refine z_iload_n F dX1_offer_4 rfl ?_
  refine z_iald11 F (by assumption) hpin dX1_offer_5 ?_
  rw [hpc]
  refine z_istore (lv' := [_, _, _, _, _, _]) F dX1_offer_6 (by decide) rfl rfl ?_
  refine z_aload_n F dX1_offer_8 rfl ?_
  refine z_aload_n F dX1_offer_9 rfl ?_
  refine z_iload F dX1_offer_10 rfl ?_
  refine z_aload_n F dX1_offer_12 rfl ?_
  refine zg_X1_heed F (by assumption) fl_X1_24 dX1_offer_13 ?_
  refine z_iload_n F dX1_offer_16 rfl ?_
  refine z_callVi F (c_X1_isGlad J hk ht hh hx) zm_X1_isGlad zv_X1_isGlad ml_X1_100 (by assumption) (by decide) rfl rfl rfl (Nat.le_of_ble_eq_true rfl) dX1_offer_17 (by decide) (fun r_17 M_17 h_17 => ?_)
  obtain ⟨e_17, rfl⟩ := h_17
  replace e_17 := Eq.symm e_17
  subst e_17
  refine z_if_ne (tgt := 24) F dX1_offer_20 (by decide) (fun h_20 => ?_) (fun h_20 => ?_)
  · rw [bI_1] at h_20
    refine z_aload_n F dX1_offer_24 rfl ?_
    refine zg_X1_things F (by assumption) fl_X1_11 dX1_offer_25 (fun hk_25 => ?_)
    refine z_aload_n F dX1_offer_28 rfl ?_
    refine zg_X5_his F (by assumption) fl_X1_69 dX1_offer_29 ?_
    refine z_aald16 F (by assumption) (vpl 10 (by decide) (by first | assumption | grind)) dX1_offer_32 (fun hk_32 hb_32 ho_32 => ?_)
    refine zg_X4_worth F (by assumption) fl_X1_35 dX1_offer_33 ?_
    refine z_aload_n F dX1_offer_36 rfl ?_
    refine zg_X1_things F (by assumption) fl_X1_11 dX1_offer_37 (fun hk_37 => ?_)
    refine z_iload F dX1_offer_40 rfl ?_
    refine z_aald16 F (by assumption) (vpl 10 (by decide) (by first | assumption | grind)) dX1_offer_42 (fun hk_42 hb_42 ho_42 => ?_)
    refine zg_X4_worth F (by assumption) fl_X1_35 dX1_offer_43 ?_
    refine z_aload_n F dX1_offer_46 rfl ?_
    refine zg_X1_margin F (by assumption) fl_X1_21 dX1_offer_47 (fun hk_47 => ?_)
    refine z_iload_n F dX1_offer_50 rfl ?_
    refine z_iald13 F (by assumption) hpin dX1_offer_51 ?_
    rw [hpc]
    refine z_iadd F dX1_offer_52 ?_
    refine z_ic_lt (tgt := 60) F dX1_offer_53 (by decide) (fun h_53 => ?_) (fun h_53 => ?_)
    · refine z_iconst (v := 0) F dX1_offer_60 (by decide) ?_
      refine z_istore (lv' := [_, _, _, _, _, _]) F dX1_offer_61 (by decide) rfl rfl ?_
      refine z_iload F dX1_offer_63 rfl ?_
      refine z_if_eq (tgt := 97) F dX1_offer_65 (by decide) (fun h_65 => ?_) (fun h_65 => absurd h_65 (by decide))
      refine z_aload_n F dX1_offer_97 rfl ?_
      refine zg_X5_refused F (by assumption) fl_X1_104 dX1_offer_98 ?_
      refine z_bipush (v := (-4)) F dX1_offer_101 (by decide) ?_
      refine z_ic_ne (tgt := 114) F dX1_offer_103 (by decide) (fun h_103 => ?_) (fun h_103 => ?_)
      · refine z_vret F X dX1_offer_114 ?_
        trace_state
        sorry
      · refine z_aload_n F dX1_offer_106 rfl ?_
        refine z_aload_n F dX1_offer_107 rfl ?_
        refine zg_X5_ahead F (by assumption) fl_X1_79 dX1_offer_108 ?_
        refine zp_X5_refused F (by assumption) fl_X1_104 dX1_offer_111 ?_
        refine z_vret F X dX1_offer_114 ?_
        trace_state
        sorry
    · refine z_iconst (v := 1) F dX1_offer_56 (by decide) ?_
      refine z_goto (tgt := 61) F dX1_offer_57 (by decide) ?_
      refine z_istore (lv' := [_, _, _, _, _, _]) F dX1_offer_61 (by decide) rfl rfl ?_
      refine z_iload F dX1_offer_63 rfl ?_
      refine z_if_eq (tgt := 97) F dX1_offer_65 (by decide) (fun h_65 => absurd h_65 (by decide)) (fun h_65 => ?_)
      refine z_aload_n F dX1_offer_68 rfl ?_
      refine zg_X5_theirs F (by assumption) fl_X1_60 dX1_offer_69 (fun hk_69 => ?_)
      refine z_iload_n F dX1_offer_72 rfl ?_
      refine z_aload_n F dX1_offer_73 rfl ?_
      refine zg_X5_his F (by assumption) fl_X1_69 dX1_offer_74 ?_
      refine z_iast11 F (by assumption) hpin dX1_offer_77 ?_
      rw [hpc]
      refine z_aload_n F dX1_offer_78 rfl ?_
      refine z_iload F dX1_offer_79 rfl ?_
      refine z_callVv F (c_X5_hasNew J (by assumption)) zm_X5_hasNew zv_X5_hasNew ml_X1_93 (by assumption) (by decide) rfl rfl rfl (Nat.le_of_ble_eq_true rfl) dX1_offer_81 (by decide) (fun M_81 h_81 => ?_)
      replace h_81 := Eq.symm h_81
      subst h_81
      refine z_aload_n F dX1_offer_84 rfl ?_
      refine z_dup F dX1_offer_85 rfl ?_
      refine zg_X5_changes F (by assumption) fl_X1_72 dX1_offer_86 ?_
      refine z_iconst (v := 1) F dX1_offer_89 (by decide) ?_
      refine z_iadd F dX1_offer_90 ?_
      refine zp_X5_changes F (by assumption) fl_X1_72 dX1_offer_91 ?_
      refine z_goto (tgt := 114) F dX1_offer_94 (by decide) ?_
      refine z_vret F X dX1_offer_114 ?_
      trace_state
      sorry
  · rw [bI_0] at h_20
    refine z_vret F X dX1_offer_23 ?_
    trace_state
    sorry
