theorem rbM_up (R : zF1) (v : Int32) : rbM (va_up R 18 v) = rbM R := funext fun k => by
  unfold rbM
  rw [va_up_ne _ _ (by decide), va_up_ne _ _ (by decide), va_up_ne _ _ (by decide), va_up_ne _ _ (by decide)]
theorem rbM_zr (M : zM) (o : Nat) (T : zF1) (rf : Int32) : rbM ((zr M o T rf).1 o) = rbM (M.1 o) := by rw [zr_o, rbM_up]
theorem stepF_ask (rb th pe : zF1) (c : Int32) (k : Nat) (s : zF1 × Int32) : stepF rb th pe c k s = if pe (2 * k) = s.1 3 then askF rb th (pe (2 * k + 1)) c k s else s := by
  unfold stepF askF
  by_cases e : pe (2 * k) = s.1 3
  · rw [if_pos e]
    by_cases e2 : (0 ≤ s.1 0 ∧ s.1 0 < rb 0) ∧ (0 ≤ s.1 (5 + k) ∧ s.1 (5 + k) < rb 0)
    · rw [if_pos ⟨e, e2⟩, if_pos e2]
    · rw [if_neg (fun q => e2 q.2), if_neg e2]
  · rw [if_neg e, if_neg (fun q => e q.1)]
theorem moreF_ask (rb th : zF1) (mo c : Int32) (s : zF1 × Int32) : moreF rb th mo c s = if mo = s.1 3 then askF rb th 0 c 8 s else s := by
  unfold moreF askF
  by_cases e : mo = s.1 3
  · rw [if_pos e]
    by_cases e2 : (0 ≤ s.1 0 ∧ s.1 0 < rb 0) ∧ (0 ≤ s.1 (5 + 8) ∧ s.1 (5 + 8) < rb 0)
    · rw [if_pos ⟨e, e2⟩, if_pos e2]
    · rw [if_neg (fun q => e2 q.2), if_neg e2]
  · rw [if_neg e, if_neg (fun q => e q.1)]
theorem c_X8_goesOn {l : Launch} {w : zE} (J : zJ w) {M : zM} {o nt np : Nat} (hk : zk o = 8) (ho : o = 138) (hnt : M.1 o 0 = nI nt) (h10 : nt ≤ 10) (hnp : M.1 o 1 = nI np) (h8 : np ≤ 8) (kd : kdOK (M.1 (o + 1))) (tv : tv9 nt (M.1 (o + 3))) : zCv l w yX8_goesOn cX8_goesOn 3 5 [.ref (w.2.2 o)] M (fun M2 => M2 = zr M o (passM (rbM (M.1 o)) (M.1 (o + 1)) (M.1 (o + 2)) np (M.1 o 7) (coinF (M.1 o 8) (M.1 (o + 3) 3)) (M.1 (o + 3), M.1 o 18)).1 (passM (rbM (M.1 o)) (M.1 (o + 1)) (M.1 (o + 2)) np (M.1 o 7) (coinF (M.1 o 8) (M.1 (o + 3) 3)) (M.1 (o + 3), M.1 o 18)).2) := by
  obtain ⟨hz1, hz2, hz3, hz4, hz5, hz6, hz7, hz8, hz9, hz10, hz11, hz12, hz13, hz14, hz15⟩ := zn8 ho
  obtain ⟨v0, v5, vm⟩ := id tv
  refine zCv_of J zm_X8_goesOn [some (.ref (w.2.2 o)), none, none] (Nat.le_of_ble_eq_true rfl) rfl (fun g hg F X => ?_)
  subst hg
  generalize hc : coinF (M.1 o 8) (M.1 (o + 3) 3) = c at X
  have e0 : rbM (M.1 o) 0 = nI nt := hnt
  have q1 : ∀ T rf, (zr M o T rf).1 (o + 1) = M.1 (o + 1) := fun T rf => zr_off (by omega) (by omega)
  have q2 : ∀ T rf, (zr M o T rf).1 (o + 2) = M.1 (o + 2) := fun T rf => zr_off (by omega) (by omega)
  have f0 : ∀ T rf, (zr M o T rf).1 o 0 = M.1 o 0 := fun T rf => zr_of M o T rf (by decide)
  have f1 : ∀ T rf, (zr M o T rf).1 o 1 = M.1 o 1 := fun T rf => zr_of M o T rf (by decide)
  have f6 : ∀ T rf, (zr M o T rf).1 o 6 = M.1 o 6 := fun T rf => zr_of M o T rf (by decide)
  have f7 : ∀ T rf, (zr M o T rf).1 o 7 = M.1 o 7 := fun T rf => zr_of M o T rf (by decide)
  have f8 : ∀ T rf, (zr M o T rf).1 o 8 = M.1 o 8 := fun T rf => zr_of M o T rf (by decide)
  have hn4 : ∀ h, h < 10 → ¬ (nI h = -4) := by decide
  have tail2 : ∀ (s : zF1 × Int32) (x2 : Option Value), zok [none, none, x2] 2 = true → tv9 nt s.1 → s.1 3 = M.1 (o + 3) 3 → endM (rbM (M.1 o)) (M.1 (o + 1)) s = passM (rbM (M.1 o)) (M.1 (o + 1)) (M.1 (o + 2)) np (M.1 o 7) c (M.1 (o + 3), M.1 o 18) → ZW w g 3 110 [some (.ref (w.2.2 o)), some (.int (M.1 (o + 3) 3)), x2] [] (zr M o s.1 s.2) := by
    intro s x2 hx2 ts h3 he
    have ew : ∀ T, wellF (rbM (M.1 o)) (M.1 (o + 1)) s.1 = T → zr M o (va_up T 3 (T 3 + 1)) s.2 = zr M o (passM (rbM (M.1 o)) (M.1 (o + 1)) (M.1 (o + 2)) np (M.1 o 7) c (M.1 (o + 3), M.1 o 18)).1 (passM (rbM (M.1 o)) (M.1 (o + 1)) (M.1 (o + 2)) np (M.1 o 7) c (M.1 (o + 3), M.1 o 18)).2 := by
      intro T hT
      rw [← he]
      unfold endM
      rw [hT]
    rcases vx_in ts.1 h10 with ⟨a0, b0⟩ | ⟨h, hh, a0, b0⟩
    · have e1 := ew s.1 (by unfold wellF; rw [e0]; exact if_neg (fun q => b0 q.2.1))
      refine z_aload_n F dX8_goesOn_110 rfl ?_
      refine zg_X8_well F (by with_reducible assumption) fl_X8_56 dX8_goesOn_111 ?_
      try simp only [zr_T, f6]
      refine z_iload_n F dX8_goesOn_114 rfl ?_
      refine z_ic_ne (tgt := 154) F dX8_goesOn_115 (by decide) (fun h_115 => ?_) (fun h_115 => ?_)
      · try simp only [zr_T, f6] at h_115
        refine z_aload_n F dX8_goesOn_154 rfl ?_
        refine zg_X8_now F (by with_reducible assumption) fl_X8_16 dX8_goesOn_155 (fun hk_155 => ?_)
        refine z_iconst (v := 3) F dX8_goesOn_158 (by decide) ?_
        refine z_dup2 F dX8_goesOn_159 rfl rfl ?_
        refine z_iald10n (q := 3) F (by with_reducible assumption) (by decide) (by rw [hz3]; omega) dX8_goesOn_160 ?_
        try simp only [zr_T, f6]
        refine z_iconst (v := 1) F dX8_goesOn_161 (by decide) ?_
        refine z_iadd F dX8_goesOn_162 ?_
        refine z_iast10n (q := 3) F (by with_reducible assumption) (by decide) (by rw [hz3]; omega) dX8_goesOn_163 ?_
        refine z_vret F X dX8_goesOn_164 ?_
        rw [zs_zr]
        exact e1
      · try simp only [zr_T, f6] at h_115
        refine z_aload_n F dX8_goesOn_118 rfl ?_
        refine zg_X8_now F (by with_reducible assumption) fl_X8_16 dX8_goesOn_119 (fun hk_119 => ?_)
        refine z_iconst (v := 0) F dX8_goesOn_122 (by decide) ?_
        refine z_iald10n (q := 0) F (by with_reducible assumption) (by decide) (by rw [hz3]; omega) dX8_goesOn_123 ?_
        try simp only [zr_T, f6]
        refine z_bipush (v := (-4)) F dX8_goesOn_124 (by decide) ?_
        refine z_ic_eq (tgt := 154) F dX8_goesOn_126 (by decide) (fun h_126 => ?_) (fun h_126 => absurd h_126 (not_not_intro a0))
        refine z_aload_n F dX8_goesOn_154 rfl ?_
        refine zg_X8_now F (by with_reducible assumption) fl_X8_16 dX8_goesOn_155 (fun hk_155 => ?_)
        refine z_iconst (v := 3) F dX8_goesOn_158 (by decide) ?_
        refine z_dup2 F dX8_goesOn_159 rfl rfl ?_
        refine z_iald10n (q := 3) F (by with_reducible assumption) (by decide) (by rw [hz3]; omega) dX8_goesOn_160 ?_
        try simp only [zr_T, f6]
        refine z_iconst (v := 1) F dX8_goesOn_161 (by decide) ?_
        refine z_iadd F dX8_goesOn_162 ?_
        refine z_iast10n (q := 3) F (by with_reducible assumption) (by decide) (by rw [hz3]; omega) dX8_goesOn_163 ?_
        refine z_vret F X dX8_goesOn_164 ?_
        rw [zs_zr]
        exact e1
    · have hco : coinF ((zr M o s.1 s.2).1 o 8) ((zr M o s.1 s.2).1 (o + 3) 3) = c := by rw [f8, zr_T, h3, hc]
      have cl : (s.1 0).toNatClampNeg = h := by rw [a0]; exact nI_clamp (by omega)
      refine z_aload_n F dX8_goesOn_110 rfl ?_
      refine zg_X8_well F (by with_reducible assumption) fl_X8_56 dX8_goesOn_111 ?_
      try simp only [zr_T, f6]
      refine z_iload_n F dX8_goesOn_114 rfl ?_
      refine z_ic_ne (tgt := 154) F dX8_goesOn_115 (by decide) (fun h_115 => ?_) (fun h_115 => ?_)
      · try simp only [zr_T, f6] at h_115
        refine z_aload_n F dX8_goesOn_154 rfl ?_
        refine zg_X8_now F (by with_reducible assumption) fl_X8_16 dX8_goesOn_155 (fun hk_155 => ?_)
        refine z_iconst (v := 3) F dX8_goesOn_158 (by decide) ?_
        refine z_dup2 F dX8_goesOn_159 rfl rfl ?_
        refine z_iald10n (q := 3) F (by with_reducible assumption) (by decide) (by rw [hz3]; omega) dX8_goesOn_160 ?_
        try simp only [zr_T, f6]
        refine z_iconst (v := 1) F dX8_goesOn_161 (by decide) ?_
        refine z_iadd F dX8_goesOn_162 ?_
        refine z_iast10n (q := 3) F (by with_reducible assumption) (by decide) (by rw [hz3]; omega) dX8_goesOn_163 ?_
        refine z_vret F X dX8_goesOn_164 ?_
        rw [zs_zr]
        refine ew s.1 ?_
        unfold wellF
        exact if_neg (fun q => h_115 (q.1.trans h3))
      · try simp only [zr_T, f6] at h_115
        refine z_aload_n F dX8_goesOn_118 rfl ?_
        refine zg_X8_now F (by with_reducible assumption) fl_X8_16 dX8_goesOn_119 (fun hk_119 => ?_)
        refine z_iconst (v := 0) F dX8_goesOn_122 (by decide) ?_
        refine z_iald10n (q := 0) F (by with_reducible assumption) (by decide) (by rw [hz3]; omega) dX8_goesOn_123 ?_
        try simp only [zr_T, f6]
        refine z_bipush (v := (-4)) F dX8_goesOn_124 (by decide) ?_
        refine z_ic_eq (tgt := 154) F dX8_goesOn_126 (by decide) (fun h_126 => absurd h_126 (by rw [a0]; exact hn4 h (by omega))) (fun h_126 => ?_)
        refine z_aload_n F dX8_goesOn_129 rfl ?_
        refine z_iconst (v := 0) F dX8_goesOn_130 (by decide) ?_
        refine z_callVi F (c_X8_own J hk ho (h := h) (by rw [zr_T]; exact a0) (by omega) (by rw [q1]; exact kd) (Or.inl rfl)) zm_X8_own zv_X8_own ml_X8_170 (by with_reducible assumption) (by decide) rfl rfl rfl (Nat.le_of_ble_eq_true rfl) dX8_goesOn_131 (by omega) (fun r_131 M_131 h_131 => ?_)
        obtain ⟨e_131, rfl⟩ := h_131
        replace e_131 := Eq.symm e_131
        subst e_131
        rw [timesF_0 (by decide), Int32.mul_one, q1, zr_T]
        refine z_bipush (v := 10) F dX8_goesOn_134 (by decide) ?_
        refine z_ic_lt (tgt := 154) F dX8_goesOn_136 (by decide) (fun h_136 => ?_) (fun h_136 => ?_)
        · try simp only [zr_T, f6] at h_136
          refine z_aload_n F dX8_goesOn_154 rfl ?_
          refine zg_X8_now F (by with_reducible assumption) fl_X8_16 dX8_goesOn_155 (fun hk_155 => ?_)
          refine z_iconst (v := 3) F dX8_goesOn_158 (by decide) ?_
          refine z_dup2 F dX8_goesOn_159 rfl rfl ?_
          refine z_iald10n (q := 3) F (by with_reducible assumption) (by decide) (by rw [hz3]; omega) dX8_goesOn_160 ?_
          try simp only [zr_T, f6]
          refine z_iconst (v := 1) F dX8_goesOn_161 (by decide) ?_
          refine z_iadd F dX8_goesOn_162 ?_
          refine z_iast10n (q := 3) F (by with_reducible assumption) (by decide) (by rw [hz3]; omega) dX8_goesOn_163 ?_
          refine z_vret F X dX8_goesOn_164 ?_
          rw [zs_zr]
          refine ew s.1 ?_
          unfold wellF
          rw [cl]
          exact if_neg (fun q => absurd q.2.2 (Int32.not_le.mpr h_136))
        · try simp only [zr_T, f6] at h_136
          refine z_aload_n F dX8_goesOn_139 rfl ?_
          refine zg_X8_now F (by with_reducible assumption) fl_X8_16 dX8_goesOn_140 (fun hk_140 => ?_)
          refine z_iconst (v := 0) F dX8_goesOn_143 (by decide) ?_
          refine z_bipush (v := (-4)) F dX8_goesOn_144 (by decide) ?_
          refine z_iast10n (q := 0) F (by with_reducible assumption) (by decide) (by rw [hz3]; omega) dX8_goesOn_146 ?_
          refine z_aload_n F dX8_goesOn_147 rfl ?_
          refine zg_X8_now F (by with_reducible assumption) fl_X8_16 dX8_goesOn_148 (fun hk_148 => ?_)
          refine z_iconst (v := 1) F dX8_goesOn_151 (by decide) ?_
          refine z_iconst (v := 0) F dX8_goesOn_152 (by decide) ?_
          refine z_iast10n (q := 1) F (by with_reducible assumption) (by decide) (by rw [hz3]; omega) dX8_goesOn_153 ?_
          refine z_aload_n F dX8_goesOn_154 rfl ?_
          refine zg_X8_now F (by with_reducible assumption) fl_X8_16 dX8_goesOn_155 (fun hk_155 => ?_)
          refine z_iconst (v := 3) F dX8_goesOn_158 (by decide) ?_
          refine z_dup2 F dX8_goesOn_159 rfl rfl ?_
          refine z_iald10n (q := 3) F (by with_reducible assumption) (by decide) (by rw [hz3]; omega) dX8_goesOn_160 ?_
          try simp only [zr_T, f6]
          refine z_iconst (v := 1) F dX8_goesOn_161 (by decide) ?_
          refine z_iadd F dX8_goesOn_162 ?_
          refine z_iast10n (q := 3) F (by with_reducible assumption) (by decide) (by rw [hz3]; omega) dX8_goesOn_163 ?_
          refine z_vret F X dX8_goesOn_164 ?_
          simp only [zs_zr, zr_T]
          refine ew _ ?_
          unfold wellF
          rw [cl, e0]
          exact if_pos ⟨h_115.trans h3.symm, b0, h_136⟩
  have tail1 : ∀ (s : zF1 × Int32) (x2 : Option Value), zok [none, none, x2] 2 = true → tv9 nt s.1 → s.1 3 = M.1 (o + 3) 3 → endM (rbM (M.1 o)) (M.1 (o + 1)) (moreF (rbM (M.1 o)) (M.1 (o + 1)) (M.1 o 7) c s) = passM (rbM (M.1 o)) (M.1 (o + 1)) (M.1 (o + 2)) np (M.1 o 7) c (M.1 (o + 3), M.1 o 18) → ZW w g 3 95 [some (.ref (w.2.2 o)), some (.int (M.1 (o + 3) 3)), x2] [] (zr M o s.1 s.2) := by
    intro s x2 hx2 ts h3 he
    have hco : coinF ((zr M o s.1 s.2).1 o 8) ((zr M o s.1 s.2).1 (o + 3) 3) = c := by rw [f8, zr_T, h3, hc]
    obtain ⟨m1, m2⟩ := more_ok ts (rbM (M.1 o)) (M.1 (o + 1)) (M.1 o 7) c
    rw [moreF_ask] at he m1 m2
    refine z_aload_n F dX8_goesOn_95 rfl ?_
    refine zg_X8_more F (by with_reducible assumption) fl_X8_186 dX8_goesOn_96 ?_
    try simp only [f7]
    refine z_iload_n F dX8_goesOn_99 rfl ?_
    refine z_ic_ne (tgt := 110) F dX8_goesOn_100 (by decide) (fun h_100 => ?_) (fun h_100 => ?_)
    · try simp only [f7] at h_100
      rw [if_neg (by rw [h3]; exact h_100)] at he m1 m2
      exact tail2 s x2 hx2 ts h3 he
    · try simp only [f7] at h_100
      refine z_aload_n F dX8_goesOn_103 rfl ?_
      refine z_bipush (v := 8) F dX8_goesOn_104 (by decide) ?_
      refine z_iconst (v := 0) F dX8_goesOn_106 (by decide) ?_
      refine z_callVv F (c_X8_asks (nt := nt) (p := 8) J hk ho (by rw [f0]; exact hnt) h10 (by decide) (by rw [q1]; exact kd) (by rw [zr_T]; exact ts)) zm_X8_asks zv_X8_asks ml_X8_182 (by with_reducible assumption) (by decide) rfl rfl rfl (Nat.le_of_ble_eq_true rfl) dX8_goesOn_107 (by omega) (fun M_107 h_107 => ?_)
      replace h_107 := Eq.symm h_107
      subst h_107
      rw [if_pos (by rw [h3]; exact h_100)] at he m1 m2
      rw [hco, rbM_zr, q1, zr_T, zr_rf, zr_zr]
      exact tail2 _ x2 hx2 m1 (m2.trans h3) he
  have key : ∀ (j k : Nat) (s : zF1 × Int32), k + j = np → tv9 nt s.1 → s.1 3 = M.1 (o + 3) 3 → s = peoF (rbM (M.1 o)) (M.1 (o + 1)) (M.1 (o + 2)) c k (feelsF (rbM (M.1 o)) (M.1 (o + 1)) c (M.1 (o + 3)), M.1 o 18) → ZW w g 3 54 [some (.ref (w.2.2 o)), some (.int (M.1 (o + 3) 3)), some (.int (nI k))] [] (zr M o s.1 s.2) := by
    intro j
    induction j with
    | zero =>
      intro k s hkj ts h3 he
      have e : k = np := by omega
      subst e
      refine z_iload_n F dX8_goesOn_54 rfl ?_
      refine z_aload_n F dX8_goesOn_55 rfl ?_
      refine zg_X8_people F (by with_reducible assumption) fl_X8_76 dX8_goesOn_56 ?_
      try simp only [f1, hnp]
      refine z_ic_ge (tgt := 95) F dX8_goesOn_59 (by decide) (fun h_59 => ?_) (fun h_59 => absurd h_59 (nlt (Int32.le_refl _)))
      exact tail1 s _ rfl ts h3 (by rw [he]; rfl)
    | succ j ih =>
      intro k s hkj ts h3 he
      have hco : coinF ((zr M o s.1 s.2).1 o 8) ((zr M o s.1 s.2).1 (o + 3) 3) = c := by rw [f8, zr_T, h3, hc]
      obtain ⟨m1, m2⟩ := step_ok ts (rbM (M.1 o)) (M.1 (o + 1)) (M.1 (o + 2)) c (k := k) (by omega)
      have ih2 := ih (k + 1) (stepF (rbM (M.1 o)) (M.1 (o + 1)) (M.1 (o + 2)) c k s) (by omega) m1 (m2.trans h3) (by rw [he]; rfl)
      rw [stepF_ask, ← nI_1] at ih2
      refine z_iload_n F dX8_goesOn_54 rfl ?_
      refine z_aload_n F dX8_goesOn_55 rfl ?_
      refine zg_X8_people F (by with_reducible assumption) fl_X8_76 dX8_goesOn_56 ?_
      try simp only [f1, hnp, q2]
      refine z_ic_ge (tgt := 95) F dX8_goesOn_59 (by decide) (fun h_59 => absurd h_59 (nle (nI_lt (by omega) (by omega)))) (fun h_59 => ?_)
      refine z_aload_n F dX8_goesOn_62 rfl ?_
      refine zg_X8_person F (by with_reducible assumption) fl_X8_13 dX8_goesOn_63 (fun hk_63 => ?_)
      refine z_iconst (v := 2) F dX8_goesOn_66 (by decide) ?_
      refine z_iload_n F dX8_goesOn_67 rfl ?_
      refine z_imul F dX8_goesOn_68 ?_
      refine z_iald10n (q := (2 * k)) F (by with_reducible assumption) (by first | with_reducible rfl | (simp only [n4, n2, n3, n5, n14, n16, na1, na2, na3, nI_add, nI_1, nI_pred]; done) | (simp only [n4, n2, n3, n5, n14, n16, na1, na2, na3, nI_add, nI_1, nI_pred, Nat.add_assoc, Nat.add_comm, Nat.add_left_comm]; done)) (by rw [hz2]; omega) dX8_goesOn_69 ?_
      try simp only [f1, hnp, q2]
      refine z_iload_n F dX8_goesOn_70 rfl ?_
      refine z_ic_ne (tgt := 89) F dX8_goesOn_71 (by decide) (fun h_71 => ?_) (fun h_71 => ?_)
      · try simp only [f1, hnp, q2] at h_71
        refine z_iincc (c := 1) (lv' := [_, _, _]) F dX8_goesOn_89 rfl (by decide) (by decide) rfl rfl ?_
        refine z_goto (tgt := 54) F dX8_goesOn_92 (by decide) ?_
        rw [if_neg (by rw [h3]; exact h_71)] at ih2
        exact ih2
      · try simp only [f1, hnp, q2] at h_71
        refine z_aload_n F dX8_goesOn_74 rfl ?_
        refine z_iload_n F dX8_goesOn_75 rfl ?_
        refine z_aload_n F dX8_goesOn_76 rfl ?_
        refine zg_X8_person F (by with_reducible assumption) fl_X8_13 dX8_goesOn_77 (fun hk_77 => ?_)
        refine z_iconst (v := 2) F dX8_goesOn_80 (by decide) ?_
        refine z_iload_n F dX8_goesOn_81 rfl ?_
        refine z_imul F dX8_goesOn_82 ?_
        refine z_iconst (v := 1) F dX8_goesOn_83 (by decide) ?_
        refine z_iadd F dX8_goesOn_84 ?_
        refine z_iald10n (q := ((2 * k) + 1)) F (by with_reducible assumption) (by first | with_reducible rfl | (simp only [n4, n2, n3, n5, n14, n16, na1, na2, na3, nI_add, nI_1, nI_pred]; done) | (simp only [n4, n2, n3, n5, n14, n16, na1, na2, na3, nI_add, nI_1, nI_pred, Nat.add_assoc, Nat.add_comm, Nat.add_left_comm]; done)) (by rw [hz2]; omega) dX8_goesOn_85 ?_
        try simp only [f1, hnp, q2]
        refine z_callVv F (c_X8_asks (nt := nt) (p := k) J hk ho (by rw [f0]; exact hnt) h10 (by omega) (by rw [q1]; exact kd) (by rw [zr_T]; exact ts)) zm_X8_asks zv_X8_asks ml_X8_182 (by with_reducible assumption) (by decide) rfl rfl rfl (Nat.le_of_ble_eq_true rfl) dX8_goesOn_86 (by omega) (fun M_86 h_86 => ?_)
        replace h_86 := Eq.symm h_86
        subst h_86
        refine z_iincc (c := 1) (lv' := [_, _, _]) F dX8_goesOn_89 rfl (by decide) (by decide) rfl rfl ?_
        refine z_goto (tgt := 54) F dX8_goesOn_92 (by decide) ?_
        rw [if_pos (by rw [h3]; exact h_71)] at ih2
        rw [hco, rbM_zr, q1, zr_T, zr_rf, zr_zr]
        exact ih2
  have hst : ∀ T, feelsF (rbM (M.1 o)) (M.1 (o + 1)) c (M.1 (o + 3)) = T → ZW w g 3 54 [some (.ref (w.2.2 o)), some (.int (M.1 (o + 3) 3)), some (.int (nI 0))] [] (zr M o T (M.1 o 18)) := by
    intro T hT
    have k0 := key np 0 (feelsF (rbM (M.1 o)) (M.1 (o + 1)) c (M.1 (o + 3)), M.1 o 18) (by omega) (tv9_feel tv _ _ _) (feels_3 _ _ _ _) rfl
    rw [hT] at k0
    exact k0
  rcases vx_in v0 h10 with ⟨a0, b0⟩ | ⟨h, hh, a0, b0⟩
  · have k0 := hst (M.1 (o + 3)) (by unfold feelsF; rw [e0]; exact if_neg b0)
    rw [zr_self] at k0
    refine z_aload_n F dX8_goesOn_0 rfl ?_
    refine zg_X8_now F (by with_reducible assumption) fl_X8_16 dX8_goesOn_1 (fun hk_1 => ?_)
    refine z_iconst (v := 3) F dX8_goesOn_4 (by decide) ?_
    refine z_iald10n (q := 3) F (by with_reducible assumption) (by decide) (by rw [hz3]; omega) dX8_goesOn_5 ?_
    refine z_istore_n (lv' := [_, _, _]) F dX8_goesOn_6 (by decide) rfl rfl ?_
    refine z_aload_n F dX8_goesOn_7 rfl ?_
    refine zg_X8_now F (by with_reducible assumption) fl_X8_16 dX8_goesOn_8 (fun hk_8 => ?_)
    refine z_iconst (v := 0) F dX8_goesOn_11 (by decide) ?_
    refine z_iald10n (q := 0) F (by with_reducible assumption) (by decide) (by rw [hz3]; omega) dX8_goesOn_12 ?_
    refine z_bipush (v := (-4)) F dX8_goesOn_13 (by decide) ?_
    refine z_ic_eq (tgt := 52) F dX8_goesOn_15 (by decide) (fun h_15 => ?_) (fun h_15 => absurd h_15 (not_not_intro a0))
    refine z_iconst (v := 0) F dX8_goesOn_52 (by decide) ?_
    refine z_istore_n (lv' := [_, _, _]) F dX8_goesOn_53 (by decide) rfl rfl ?_
    exact k0
  · have cl : (M.1 (o + 3) 0).toNatClampNeg = h := by rw [a0]; exact nI_clamp (by omega)
    have e1 : zs M (o + 3) 1 (M.1 (o + 3) 1 + 1) = zr M o (va_up (M.1 (o + 3)) 1 (M.1 (o + 3) 1 + 1)) (M.1 o 18) := by
      rw [← za_zr, zs_za]
    have p0 : va_up (M.1 (o + 3)) 1 (M.1 (o + 3) 1 + 1) 0 = nI h := by rw [va_up_ne _ _ (by decide)]; exact a0
    have p1 : va_up (M.1 (o + 3)) 1 (M.1 (o + 3) 1 + 1) 1 = M.1 (o + 3) 1 + 1 := va_up_self _ _ _
    have p3 : va_up (M.1 (o + 3)) 1 (M.1 (o + 3) 1 + 1) 3 = M.1 (o + 3) 3 := va_up_ne _ _ (by decide)
    have k0 := hst (feelF (M.1 (o + 1)) c (M.1 (o + 3))) (by unfold feelsF; rw [e0]; exact if_pos b0)
    unfold feelF at k0
    rw [cl] at k0
    refine z_aload_n F dX8_goesOn_0 rfl ?_
    refine zg_X8_now F (by with_reducible assumption) fl_X8_16 dX8_goesOn_1 (fun hk_1 => ?_)
    refine z_iconst (v := 3) F dX8_goesOn_4 (by decide) ?_
    refine z_iald10n (q := 3) F (by with_reducible assumption) (by decide) (by rw [hz3]; omega) dX8_goesOn_5 ?_
    refine z_istore_n (lv' := [_, _, _]) F dX8_goesOn_6 (by decide) rfl rfl ?_
    refine z_aload_n F dX8_goesOn_7 rfl ?_
    refine zg_X8_now F (by with_reducible assumption) fl_X8_16 dX8_goesOn_8 (fun hk_8 => ?_)
    refine z_iconst (v := 0) F dX8_goesOn_11 (by decide) ?_
    refine z_iald10n (q := 0) F (by with_reducible assumption) (by decide) (by rw [hz3]; omega) dX8_goesOn_12 ?_
    refine z_bipush (v := (-4)) F dX8_goesOn_13 (by decide) ?_
    refine z_ic_eq (tgt := 52) F dX8_goesOn_15 (by decide) (fun h_15 => absurd h_15 (by rw [a0]; exact hn4 h (by omega))) (fun h_15 => ?_)
    refine z_aload_n F dX8_goesOn_18 rfl ?_
    refine zg_X8_now F (by with_reducible assumption) fl_X8_16 dX8_goesOn_19 (fun hk_19 => ?_)
    refine z_iconst (v := 1) F dX8_goesOn_22 (by decide) ?_
    refine z_dup2 F dX8_goesOn_23 rfl rfl ?_
    refine z_iald10n (q := 1) F (by with_reducible assumption) (by decide) (by rw [hz3]; omega) dX8_goesOn_24 ?_
    refine z_iconst (v := 1) F dX8_goesOn_25 (by decide) ?_
    refine z_iadd F dX8_goesOn_26 ?_
    refine z_iast10n (q := 1) F (by with_reducible assumption) (by decide) (by rw [hz3]; omega) dX8_goesOn_27 ?_
    rw [e1]
    refine z_aload_n F dX8_goesOn_28 rfl ?_
    refine zg_X8_now F (by with_reducible assumption) fl_X8_16 dX8_goesOn_29 (fun hk_29 => ?_)
    refine z_iconst (v := 2) F dX8_goesOn_32 (by decide) ?_
    refine z_aload_n F dX8_goesOn_33 rfl ?_
    refine z_iconst (v := 0) F dX8_goesOn_34 (by decide) ?_
    refine z_callVi F (c_X8_own J hk ho (h := h) (by rw [zr_T]; exact p0) (by omega) (by rw [q1]; exact kd) (by first | exact Or.inl rfl | exact Or.inr rfl)) zm_X8_own zv_X8_own ml_X8_170 (by with_reducible assumption) (by decide) rfl rfl rfl (Nat.le_of_ble_eq_true rfl) dX8_goesOn_35 (by omega) (fun r_35 M_35 h_35 => ?_)
    obtain ⟨e_35, rfl⟩ := h_35
    replace e_35 := Eq.symm e_35
    subst e_35
    refine z_aload_n F dX8_goesOn_38 rfl ?_
    refine z_iconst (v := 1) F dX8_goesOn_39 (by decide) ?_
    refine z_callVi F (c_X8_own J hk ho (h := h) (by rw [zr_T]; exact p0) (by omega) (by rw [q1]; exact kd) (by first | exact Or.inl rfl | exact Or.inr rfl)) zm_X8_own zv_X8_own ml_X8_170 (by with_reducible assumption) (by decide) rfl rfl rfl (Nat.le_of_ble_eq_true rfl) dX8_goesOn_40 (by omega) (fun r_40 M_40 h_40 => ?_)
    obtain ⟨e_40, rfl⟩ := h_40
    replace e_40 := Eq.symm e_40
    subst e_40
    rw [timesF_0 (m := 0) (by decide), timesF_1 (m := 1) rfl, Int32.mul_one, q1, zr_T, f8, p1, p3, hc]
    refine z_ic_lt (tgt := 50) F dX8_goesOn_43 (by decide) (fun h_43 => ?_) (fun h_43 => ?_)
    · refine z_iconst (v := 1) F dX8_goesOn_50 (by decide) ?_
      refine z_iast10n (q := 2) F (by with_reducible assumption) (by decide) (by rw [hz3]; omega) dX8_goesOn_51 ?_
      refine z_iconst (v := 0) F dX8_goesOn_52 (by decide) ?_
      refine z_istore_n (lv' := [_, _, _]) F dX8_goesOn_53 (by decide) rfl rfl ?_
      rw [if_neg (Int32.not_le.mpr h_43)] at k0
      rw [zs_zr]
      exact k0
    · refine z_iconst (v := 0) F dX8_goesOn_46 (by decide) ?_
      refine z_goto (tgt := 51) F dX8_goesOn_47 (by decide) ?_
      refine z_iast10n (q := 2) F (by with_reducible assumption) (by decide) (by rw [hz3]; omega) dX8_goesOn_51 ?_
      refine z_iconst (v := 0) F dX8_goesOn_52 (by decide) ?_
      refine z_istore_n (lv' := [_, _, _]) F dX8_goesOn_53 (by decide) rfl rfl ?_
      rw [if_pos h_43] at k0
      rw [zs_zr]
      exact k0
theorem c_X8_goesHome {l : Launch} {w : zE} (J : zJ w) {M : zM} {o nt np a : Nat} (hk : zk o = 8) (ho : o = 138) (hnt : M.1 o 0 = nI nt) (h10 : nt ≤ 10) (hnp : M.1 o 1 = nI np) (h8 : np ≤ 8) (kd : kdOK (M.1 (o + 1))) (tv : tv9 nt (M.1 (o + 3))) (ha : M.1 (o + 3) 3 = nI a) (h12 : a ≤ 12) : zCv l w yX8_goesHome cX8_goesHome 1 6 [.ref (w.2.2 o)] M (fun M2 => M2 = zr M o (homeM (rbM (M.1 o)) (M.1 (o + 1)) (M.1 (o + 2)) np (M.1 o 7) (M.1 o 8) (12 - a) (M.1 (o + 3), -4)).1 (homeM (rbM (M.1 o)) (M.1 (o + 1)) (M.1 (o + 2)) np (M.1 o 7) (M.1 o 8) (12 - a) (M.1 (o + 3), -4)).2) := by
  obtain ⟨hz1, hz2, hz3, hz4, hz5, hz6, hz7, hz8, hz9, hz10, hz11, hz12, hz13, hz14, hz15⟩ := zn8 ho
  have q1 : ∀ T rf, (zr M o T rf).1 (o + 1) = M.1 (o + 1) := fun T rf => zr_off (by omega) (by omega)
  have q2 : ∀ T rf, (zr M o T rf).1 (o + 2) = M.1 (o + 2) := fun T rf => zr_off (by omega) (by omega)
  have f0 : ∀ T rf, (zr M o T rf).1 o 0 = M.1 o 0 := fun T rf => zr_of M o T rf (by decide)
  have f1 : ∀ T rf, (zr M o T rf).1 o 1 = M.1 o 1 := fun T rf => zr_of M o T rf (by decide)
  have f7 : ∀ T rf, (zr M o T rf).1 o 7 = M.1 o 7 := fun T rf => zr_of M o T rf (by decide)
  have f8 : ∀ T rf, (zr M o T rf).1 o 8 = M.1 o 8 := fun T rf => zr_of M o T rf (by decide)
  refine zCv_of J zm_X8_goesHome [some (.ref (w.2.2 o))] (Nat.le_of_ble_eq_true rfl) rfl (fun g hg F X => ?_)
  subst hg
  generalize hR : homeM (rbM (M.1 o)) (M.1 (o + 1)) (M.1 (o + 2)) np (M.1 o 7) (M.1 o 8) (12 - a) (M.1 (o + 3), -4) = R at X
  have key : ∀ (j k : Nat) (s : zF1 × Int32), k + j = 12 → tv9 nt s.1 → s.1 3 = nI k → homeM (rbM (M.1 o)) (M.1 (o + 1)) (M.1 (o + 2)) np (M.1 o 7) (M.1 o 8) j s = R → ZW w g 1 6 [some (.ref (w.2.2 o))] [] (zr M o s.1 s.2) := by
    intro j
    induction j with
    | zero =>
      intro k s hkj ts h3 he
      have e : k = 12 := by omega
      subst e
      have he2 : s = R := he
      subst he2
      refine z_aload_n F dX8_goesHome_6 rfl ?_
      refine zg_X8_now F (by with_reducible assumption) fl_X8_16 dX8_goesHome_7 (fun hk_7 => ?_)
      refine z_iconst (v := 3) F dX8_goesHome_10 (by decide) ?_
      refine z_iald10n (q := 3) F (by with_reducible assumption) (by decide) (by rw [hz3]; omega) dX8_goesHome_11 ?_
      try simp only [zr_T, h3]
      refine z_bipush (v := 12) F dX8_goesHome_12 (by decide) ?_
      refine z_ic_ge (tgt := 24) F dX8_goesHome_14 (by decide) (fun h_14 => ?_) (fun h_14 => absurd h_14 (by decide))
      refine z_vret F X dX8_goesHome_24 ?_
      rfl
    | succ j ih =>
      intro k s hkj ts h3 he
      obtain ⟨m1, m2⟩ := pass_ok ts (rbM (M.1 o)) (M.1 (o + 1)) (M.1 (o + 2)) (np := np) (M.1 o 7) (coinF (M.1 o 8) (s.1 3)) (by omega)
      have ih2 := ih (k + 1) _ (by omega) m1 (by rw [m2, h3, nI_1]) he
      refine z_aload_n F dX8_goesHome_6 rfl ?_
      refine zg_X8_now F (by with_reducible assumption) fl_X8_16 dX8_goesHome_7 (fun hk_7 => ?_)
      refine z_iconst (v := 3) F dX8_goesHome_10 (by decide) ?_
      refine z_iald10n (q := 3) F (by with_reducible assumption) (by decide) (by rw [hz3]; omega) dX8_goesHome_11 ?_
      try simp only [zr_T, h3]
      refine z_bipush (v := 12) F dX8_goesHome_12 (by decide) ?_
      refine z_ic_ge (tgt := 24) F dX8_goesHome_14 (by decide) (fun h_14 => absurd h_14 (nle (nI_lt (b := 12) (by omega) (by decide)))) (fun h_14 => ?_)
      refine z_aload_n F dX8_goesHome_17 rfl ?_
      refine z_callVv F (c_X8_goesOn J hk ho (by rw [f0]; exact hnt) h10 (by rw [f1]; exact hnp) h8 (by rw [q1]; exact kd) (by rw [zr_T]; exact ts)) zm_X8_goesOn zv_X8_goesOn ml_X8_192 (by with_reducible assumption) (by decide) rfl rfl rfl (Nat.le_of_ble_eq_true rfl) dX8_goesHome_18 (by omega) (fun M_18 h_18 => ?_)
      replace h_18 := Eq.symm h_18
      subst h_18
      refine z_goto (tgt := 6) F dX8_goesHome_21 (by decide) ?_
      rw [rbM_zr, q1, q2, zr_T, zr_rf, f7, f8, zr_zr]
      exact ih2
  have k0 := key (12 - a) a (M.1 (o + 3), -4) (by omega) tv ha hR
  have q := zs_zro M o (M.1 (o + 3)) (M.1 o 18) (-4)
  rw [zr_self] at q
  refine z_aload_n F dX8_goesHome_0 rfl ?_
  refine z_bipush (v := (-4)) F dX8_goesHome_1 (by decide) ?_
  refine zp_X8_refused F (by with_reducible assumption) fl_X8_179 dX8_goesHome_3 ?_
  rw [q]
  exact k0
