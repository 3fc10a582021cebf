/-! what is restored, and copies, in general -/
def rsF (M : zM) (o : Nat) : zM := za (za (za (za (zs (zs (zs (zs (zs M o 0 (M.1 (o + 11) 0)) o 1 (M.1 (o + 11) 1)) o 5 (M.1 (o + 11) 2)) o 6 (M.1 (o + 11) 3)) o 20 (M.1 (o + 11) 4)) (o + 1) (gvL (M.1 (o + 11)) 5 (M.1 (o + 1)) 40)) (o + 2) (gvL (M.1 (o + 11)) 45 (M.1 (o + 2)) 16)) (o + 3) (gvL (M.1 (o + 11)) 61 (M.1 (o + 3)) 14)) (o + 7) (gvL (M.1 (o + 11)) 75 (M.1 (o + 7)) 112)
theorem c_X8_restore {l : Launch} {w : zE} (J : zJ w) {M : zM} {o : Nat} (hk : zk o = 8) (ho : o = 138) : zCi l w yX8_restore cX8_restore 2 (some .int) 1 [.ref (w.2.2 o)] M (fun r M2 => (M.1 o 25 = 0 ∧ r = -4 ∧ M2 = M) ∨ (¬ M.1 o 25 = 0 ∧ r = 1 ∧ M2 = rsF M o)) := by
  obtain ⟨hz1, hz2, hz3, hz4, hz5, hz6, hz7, hz8, hz9, hz10, hz11, hz12, hz13, hz14, hz15⟩ := zn8 ho
  have s1 : ∀ (N : zM) (k : Nat) (v : Int32), (zs N o k v).1 (o + 1) = N.1 (o + 1) := fun _ _ _ => zs_off _ (by omega)
  have s2 : ∀ (N : zM) (k : Nat) (v : Int32), (zs N o k v).1 (o + 2) = N.1 (o + 2) := fun _ _ _ => zs_off _ (by omega)
  have s3 : ∀ (N : zM) (k : Nat) (v : Int32), (zs N o k v).1 (o + 3) = N.1 (o + 3) := fun _ _ _ => zs_off _ (by omega)
  have s7 : ∀ (N : zM) (k : Nat) (v : Int32), (zs N o k v).1 (o + 7) = N.1 (o + 7) := fun _ _ _ => zs_off _ (by omega)
  have s11 : ∀ (N : zM) (k : Nat) (v : Int32), (zs N o k v).1 (o + 11) = N.1 (o + 11) := fun _ _ _ => zs_off _ (by omega)
  have a12 : ∀ (N : zM) (f : zF1), (za N (o + 1) f).1 (o + 2) = N.1 (o + 2) := fun _ _ => za_off _ (by omega)
  have a13 : ∀ (N : zM) (f : zF1), (za N (o + 1) f).1 (o + 3) = N.1 (o + 3) := fun _ _ => za_off _ (by omega)
  have a17 : ∀ (N : zM) (f : zF1), (za N (o + 1) f).1 (o + 7) = N.1 (o + 7) := fun _ _ => za_off _ (by omega)
  have a111 : ∀ (N : zM) (f : zF1), (za N (o + 1) f).1 (o + 11) = N.1 (o + 11) := fun _ _ => za_off _ (by omega)
  have a23 : ∀ (N : zM) (f : zF1), (za N (o + 2) f).1 (o + 3) = N.1 (o + 3) := fun _ _ => za_off _ (by omega)
  have a27 : ∀ (N : zM) (f : zF1), (za N (o + 2) f).1 (o + 7) = N.1 (o + 7) := fun _ _ => za_off _ (by omega)
  have a211 : ∀ (N : zM) (f : zF1), (za N (o + 2) f).1 (o + 11) = N.1 (o + 11) := fun _ _ => za_off _ (by omega)
  have a37 : ∀ (N : zM) (f : zF1), (za N (o + 3) f).1 (o + 7) = N.1 (o + 7) := fun _ _ => za_off _ (by omega)
  have a311 : ∀ (N : zM) (f : zF1), (za N (o + 3) f).1 (o + 11) = N.1 (o + 11) := fun _ _ => za_off _ (by omega)
  refine zCi_of J zm_X8_restore [some (.ref (w.2.2 o)), none] (Nat.le_of_ble_eq_true rfl) rfl (fun g hg F X => ?_)
  subst hg
  refine z_aload_n F dX8_restore_0 rfl ?_
  refine zg_X8_isImage F (by with_reducible assumption) fl_X8_220 dX8_restore_1 ?_
  try simp only [s11]
  refine z_if_ne (tgt := 10) F dX8_restore_4 (by decide) (fun h_4 => ?_) (fun h_4 => ?_)
  · try simp only [s11] at h_4
    refine z_aload_n F dX8_restore_10 rfl ?_
    refine z_aload_n F dX8_restore_11 rfl ?_
    refine zg_X8_image F (by with_reducible assumption) fl_X8_40 dX8_restore_12 (fun hk_12 => ?_)
    refine z_iconst (v := 0) F dX8_restore_15 (by decide) ?_
    refine z_iald10n (q := 0) F (by with_reducible assumption) (by decide) (by rw [hz11]; omega) dX8_restore_16 ?_
    try simp only [s11]
    refine zp_X8_things F (by with_reducible assumption) fl_X8_69 dX8_restore_17 ?_
    refine z_aload_n F dX8_restore_20 rfl ?_
    refine z_aload_n F dX8_restore_21 rfl ?_
    refine zg_X8_image F (by with_reducible assumption) fl_X8_40 dX8_restore_22 (fun hk_22 => ?_)
    refine z_iconst (v := 1) F dX8_restore_25 (by decide) ?_
    refine z_iald10n (q := 1) F (by with_reducible assumption) (by decide) (by rw [hz11]; omega) dX8_restore_26 ?_
    try simp only [s11]
    refine zp_X8_people F (by with_reducible assumption) fl_X8_76 dX8_restore_27 ?_
    refine z_aload_n F dX8_restore_30 rfl ?_
    refine z_aload_n F dX8_restore_31 rfl ?_
    refine zg_X8_image F (by with_reducible assumption) fl_X8_40 dX8_restore_32 (fun hk_32 => ?_)
    refine z_iconst (v := 2) F dX8_restore_35 (by decide) ?_
    refine z_iald10n (q := 2) F (by with_reducible assumption) (by decide) (by rw [hz11]; omega) dX8_restore_36 ?_
    try simp only [s11]
    refine zp_X8_heed F (by with_reducible assumption) fl_X8_60 dX8_restore_37 ?_
    refine z_aload_n F dX8_restore_40 rfl ?_
    refine z_aload_n F dX8_restore_41 rfl ?_
    refine zg_X8_image F (by with_reducible assumption) fl_X8_40 dX8_restore_42 (fun hk_42 => ?_)
    refine z_iconst (v := 3) F dX8_restore_45 (by decide) ?_
    refine z_iald10n (q := 3) F (by with_reducible assumption) (by decide) (by rw [hz11]; omega) dX8_restore_46 ?_
    try simp only [s11]
    refine zp_X8_well F (by with_reducible assumption) fl_X8_56 dX8_restore_47 ?_
    refine z_aload_n F dX8_restore_50 rfl ?_
    refine z_aload_n F dX8_restore_51 rfl ?_
    refine zg_X8_image F (by with_reducible assumption) fl_X8_40 dX8_restore_52 (fun hk_52 => ?_)
    refine z_iconst (v := 4) F dX8_restore_55 (by decide) ?_
    refine z_iald10n (q := 4) F (by with_reducible assumption) (by decide) (by rw [hz11]; omega) dX8_restore_56 ?_
    try simp only [s11]
    refine zp_X8_undos F (by with_reducible assumption) fl_X8_66 dX8_restore_57 ?_
    refine z_aload_n F dX8_restore_60 rfl ?_
    refine z_iconst (v := 5) F dX8_restore_61 (by decide) ?_
    refine z_aload_n F dX8_restore_62 rfl ?_
    refine zg_X8_thing F (by with_reducible assumption) fl_X8_7 dX8_restore_63 (fun hk_63 => ?_)
    refine z_callVi F (c_X8_gives J (k0 := 5) hk ho hk_63 (by omega) (by rw [hz1]; decide)) zm_X8_gives zv_X8_gives ml_X8_223 (by with_reducible assumption) (by decide) rfl rfl rfl (Nat.le_of_ble_eq_true rfl) dX8_restore_66 (by omega) (fun r_66 M_66 h_66 => ?_)
    obtain ⟨e_66, f_66⟩ := h_66
    simp only [hz1, hz2, hz3, hz7] at e_66
    subst e_66
    simp only [s1, s2, s3, s7, s11, a12, a13, a17, a111, a23, a27, a211, a37, a311, hz1, hz2, hz3, hz7] at f_66
    subst f_66
    refine z_istore_n (lv' := [_, _]) F dX8_restore_69 (by decide) rfl rfl ?_
    refine z_aload_n F dX8_restore_70 rfl ?_
    refine z_iload_n F dX8_restore_71 rfl ?_
    refine z_aload_n F dX8_restore_72 rfl ?_
    refine zg_X8_person F (by with_reducible assumption) fl_X8_13 dX8_restore_73 (fun hk_73 => ?_)
    refine z_callVi F (c_X8_gives J (k0 := 45) hk ho hk_73 (by omega) (by rw [hz2]; decide)) zm_X8_gives zv_X8_gives ml_X8_223 (by with_reducible assumption) (by decide) rfl rfl rfl (Nat.le_of_ble_eq_true rfl) dX8_restore_76 (by omega) (fun r_76 M_76 h_76 => ?_)
    obtain ⟨e_76, f_76⟩ := h_76
    simp only [hz1, hz2, hz3, hz7] at e_76
    subst e_76
    simp only [s1, s2, s3, s7, s11, a12, a13, a17, a111, a23, a27, a211, a37, a311, hz1, hz2, hz3, hz7] at f_76
    subst f_76
    refine z_istore_n (lv' := [_, _]) F dX8_restore_79 (by decide) rfl rfl ?_
    refine z_aload_n F dX8_restore_80 rfl ?_
    refine z_iload_n F dX8_restore_81 rfl ?_
    refine z_aload_n F dX8_restore_82 rfl ?_
    refine zg_X8_now F (by with_reducible assumption) fl_X8_16 dX8_restore_83 (fun hk_83 => ?_)
    refine z_callVi F (c_X8_gives J (k0 := 61) hk ho hk_83 (by omega) (by rw [hz3]; decide)) zm_X8_gives zv_X8_gives ml_X8_223 (by with_reducible assumption) (by decide) rfl rfl rfl (Nat.le_of_ble_eq_true rfl) dX8_restore_86 (by omega) (fun r_86 M_86 h_86 => ?_)
    obtain ⟨e_86, f_86⟩ := h_86
    simp only [hz1, hz2, hz3, hz7] at e_86
    subst e_86
    simp only [s1, s2, s3, s7, s11, a12, a13, a17, a111, a23, a27, a211, a37, a311, hz1, hz2, hz3, hz7] at f_86
    subst f_86
    refine z_istore_n (lv' := [_, _]) F dX8_restore_89 (by decide) rfl rfl ?_
    refine z_aload_n F dX8_restore_90 rfl ?_
    refine z_iload_n F dX8_restore_91 rfl ?_
    refine z_aload_n F dX8_restore_92 rfl ?_
    refine zg_X8_undone F (by with_reducible assumption) fl_X8_28 dX8_restore_93 (fun hk_93 => ?_)
    refine z_callVi F (c_X8_gives J (k0 := 75) hk ho hk_93 (by omega) (by rw [hz7]; decide)) zm_X8_gives zv_X8_gives ml_X8_223 (by with_reducible assumption) (by decide) rfl rfl rfl (Nat.le_of_ble_eq_true rfl) dX8_restore_96 (by omega) (fun r_96 M_96 h_96 => ?_)
    obtain ⟨e_96, f_96⟩ := h_96
    simp only [hz1, hz2, hz3, hz7] at e_96
    subst e_96
    simp only [s1, s2, s3, s7, s11, a12, a13, a17, a111, a23, a27, a211, a37, a311, hz1, hz2, hz3, hz7] at f_96
    subst f_96
    refine z_pop F dX8_restore_99 rfl ?_
    refine z_iconst (v := 1) F dX8_restore_100 (by decide) ?_
    refine z_iret F X dX8_restore_101 ?_
    exact Or.inr ⟨h_4, rfl, rfl⟩
  · try simp only [s11] at h_4
    refine z_bipush (v := (-4)) F dX8_restore_7 (by decide) ?_
    refine z_iret F X dX8_restore_9 ?_
    exact Or.inl ⟨h_4, rfl, rfl⟩
theorem why_ok2 {A B ln i : Int32} {m L : Nat} (hm : m < 2 ^ 31) (hB : B = nI L) (hL : L ≤ 16) (h : ¬ whyF A B ln i (nI m) < 0) : ∃ a, i = nI a ∧ a + m ≤ L := by
  unfold whyF at h
  by_cases h1 : A < 0
  · rw [if_pos h1] at h; exact absurd (by decide) h
  · rw [if_neg h1] at h
    by_cases h2 : A = ln
    · rw [if_neg (fun q => q h2)] at h
      by_cases h3 : i < 0 ∨ B.toInt64 < i.toInt64 + (nI m).toInt64
      · rw [if_pos h3] at h; exact absurd (by decide) h
      · obtain ⟨a, ha, rfl⟩ := nI_of (fun q => h3 (Or.inl q))
        refine ⟨a, rfl, ?_⟩
        have h4 : ¬ B.toInt64 < (nI a).toInt64 + (nI m).toInt64 := fun q => h3 (Or.inr q)
        rw [hB, nI_l (by omega), nI_l (by omega), nI_l (by omega), lN_add, Int64.lt_iff_toInt_lt, lN_big (by omega), lN_big (by omega)] at h4
        omega
    · rw [if_pos h2] at h; exact absurd (by decide) h
/-- n of a row's longs, from place s on, laid at place d on -/
def mvL (f : Nat → Int64) (s : Nat) (g : Nat → Int64) (d : Nat) : Nat → Nat → Int64
  | 0 => g
  | n + 1 => va_up (mvL f s g d n) (d + n) (f (s + n))
theorem c_X8_copy {l : Launch} {w : zE} (J : zJ w) {M : zM} {o : Nat} {x i y j n : Int32} (hk : zk o = 8) (ho : o = 138) (hS : szOK (M.1 (o + 13))) : zCi l w yX8_copy cX8_copy 7 (some .int) 2 [.ref (w.2.2 o), .int x, .int i, .int y, .int j, .int n] M (fun r M2 => (((x < 0 ∨ 3 < x) ∨ (y < 0 ∨ 3 < y)) ∧ r = -1 ∧ M2 = M) ∨ (¬ ((x < 0 ∨ 3 < x) ∨ (y < 0 ∨ 3 < y)) ∧ ∃ q p, q < 4 ∧ p < 4 ∧ x = nI q ∧ y = nI p ∧ (((M.1 (o + 12) q < 0 ∨ M.1 (o + 12) p < 0) ∧ r = -11 ∧ M2 = M) ∨ (¬ (M.1 (o + 12) q < 0 ∨ M.1 (o + 12) p < 0) ∧ ((¬ M.1 (o + 12) q = M.1 (o + 12) p ∧ r = -12 ∧ M2 = M) ∨ (M.1 (o + 12) q = M.1 (o + 12) p ∧ (((n < 0 ∨ whyF (M.1 (o + 12) q) (M.1 (o + 13) q) (M.1 (o + 12) q) i n < 0 ∨ whyF (M.1 (o + 12) p) (M.1 (o + 13) p) (M.1 (o + 12) p) j n < 0) ∧ r = -13 ∧ M2 = M) ∨ (¬ (n < 0 ∨ whyF (M.1 (o + 12) q) (M.1 (o + 13) q) (M.1 (o + 12) q) i n < 0 ∨ whyF (M.1 (o + 12) p) (M.1 (o + 13) p) (M.1 (o + 12) p) j n < 0) ∧ r = n ∧ ∃ a b m, i = nI a ∧ j = nI b ∧ n = nI m ∧ a + m ≤ 16 ∧ b + m ≤ 16 ∧ M2 = zya (zya M (o + 15) (mvL (M.2 (o + 14)) (16 * q + a) (M.2 (o + 15)) 0 m)) (o + 14) (mvL (mvL (M.2 (o + 14)) (16 * q + a) (M.2 (o + 15)) 0 m) 0 (M.2 (o + 14)) (16 * p + b) m))))))))) := by
  obtain ⟨hz1, hz2, hz3, hz4, hz5, hz6, hz7, hz8, hz9, hz10, hz11, hz12, hz13, hz14, hz15⟩ := zn8 ho
  have k14 : ∀ (N : zM) (f : Nat → Int64), (zya N (o + 15) f).2 (o + 14) = N.2 (o + 14) := fun N f => va_up_ne _ _ (by omega)
  have k15 : ∀ (N : zM) (f : Nat → Int64), (zya N (o + 14) f).2 (o + 15) = N.2 (o + 15) := fun N f => va_up_ne _ _ (by omega)
  have k55 : ∀ (N : zM) (f : Nat → Int64), (zya N (o + 15) f).2 (o + 15) = f := fun N f => va_up_self _ _ _
  refine zCi_of J zm_X8_copy [some (.ref (w.2.2 o)), some (.int x), some (.int i), some (.int y), some (.int j), some (.int n), none] (Nat.le_of_ble_eq_true rfl) rfl (fun g hg F X => ?_)
  subst hg
  have key2 : ∀ (q p a b m : Nat) (f : Nat → Int64), q < 4 → p < 4 → a + m ≤ 16 → b + m ≤ 16 → (∀ M2, M2 = zya (zya M (o + 15) f) (o + 14) (mvL f 0 (M.2 (o + 14)) (16 * p + b) m) → ZW w g 7 173 [some (.ref (w.2.2 o)), some (.int (nI q)), some (.int (nI a)), some (.int (nI p)), some (.int (nI b)), some (.int (nI m)), some (.int (nI m))] [] M2) → ∀ (r k : Nat), k + r = m → ZW w g 7 138 [some (.ref (w.2.2 o)), some (.int (nI q)), some (.int (nI a)), some (.int (nI p)), some (.int (nI b)), some (.int (nI m)), some (.int (nI k))] [] (zya (zya M (o + 15) f) (o + 14) (mvL f 0 (M.2 (o + 14)) (16 * p + b) k)) := by
    intro q p a b m f hq hp ham hbm K r
    induction r with
    | zero =>
      intro k hkr
      obtain rfl : k = m := by omega
      refine z_iload F dX8_copy_138 rfl ?_
      refine z_iload F dX8_copy_140 rfl ?_
      refine z_ic_ge (tgt := 173) F dX8_copy_142 (by decide) (fun h_142 => ?_) (fun h_142 => absurd h_142 (fun z => absurd z (Int32.not_lt.mpr (Int32.le_refl _))))
      exact K _ rfl
    | succ r ih =>
      intro k hkr
      refine z_iload F dX8_copy_138 rfl ?_
      refine z_iload F dX8_copy_140 rfl ?_
      refine z_ic_ge (tgt := 173) F dX8_copy_142 (by decide) (fun h_142 => absurd h_142 (nI_ge (by omega) (by omega))) (fun h_142 => ?_)
      refine z_aload_n F dX8_copy_145 rfl ?_
      refine zg_X8_items F (by with_reducible assumption) fl_X8_49 dX8_copy_146 (fun hk_146 => ?_)
      refine z_bipush (v := 16) F dX8_copy_149 (by decide) ?_
      refine z_iload_n F dX8_copy_151 rfl ?_
      refine z_imul F dX8_copy_152 ?_
      refine z_iload F dX8_copy_153 rfl ?_
      refine z_iadd F dX8_copy_155 ?_
      refine z_iload F dX8_copy_156 rfl ?_
      refine z_iadd F dX8_copy_158 ?_
      refine z_aload_n F dX8_copy_159 rfl ?_
      refine zg_X8_moved F (by with_reducible assumption) fl_X8_53 dX8_copy_160 (fun hk_160 => ?_)
      refine z_iload F dX8_copy_163 rfl ?_
      refine z_lald14n (q := k) F (by with_reducible assumption) (by first | with_reducible rfl | (simp only [n4, n2, n3, n5, n14, n16, na1, na2, na3, nI_add, nI_1, nI_pred]; done) | (simp only [n4, n2, n3, n5, n14, n16, na1, na2, na3, nI_add, nI_1, nI_pred, Nat.add_assoc, Nat.add_comm, Nat.add_left_comm]; done)) (by rw [hz15]; omega) dX8_copy_165 ?_
      try simp only [k15, k55]
      refine z_last14n (q := (((16 * p) + b) + k)) F (by with_reducible assumption) (by first | with_reducible rfl | (simp only [n4, n2, n3, n5, n14, n16, na1, na2, na3, nI_add, nI_1, nI_pred]; done) | (simp only [n4, n2, n3, n5, n14, n16, na1, na2, na3, nI_add, nI_1, nI_pred, Nat.add_assoc, Nat.add_comm, Nat.add_left_comm]; done)) (by rw [hz14]; omega) dX8_copy_166 ?_
      refine z_iincc (c := 1) (lv' := [_, _, _, _, _, _, _]) F dX8_copy_167 rfl (by decide) (by decide) rfl rfl ?_
      refine z_goto (tgt := 138) F dX8_copy_170 (by decide) ?_
      rw [nI_1, zy_zya]
      have Q := ih (k + 1) (by omega)
      rw [mvL, Nat.zero_add] at Q
      exact Q
  have key1 : ∀ (q p a b m : Nat), q < 4 → p < 4 → a + m ≤ 16 → b + m ≤ 16 → (∀ M2, M2 = zya (zya M (o + 15) (mvL (M.2 (o + 14)) (16 * q + a) (M.2 (o + 15)) 0 m)) (o + 14) (mvL (mvL (M.2 (o + 14)) (16 * q + a) (M.2 (o + 15)) 0 m) 0 (M.2 (o + 14)) (16 * p + b) m) → ZW w g 7 173 [some (.ref (w.2.2 o)), some (.int (nI q)), some (.int (nI a)), some (.int (nI p)), some (.int (nI b)), some (.int (nI m)), some (.int (nI m))] [] M2) → ∀ (r k : Nat), k + r = m → ZW w g 7 101 [some (.ref (w.2.2 o)), some (.int (nI q)), some (.int (nI a)), some (.int (nI p)), some (.int (nI b)), some (.int (nI m)), some (.int (nI k))] [] (zya M (o + 15) (mvL (M.2 (o + 14)) (16 * q + a) (M.2 (o + 15)) 0 k)) := by
    intro q p a b m hq hp ham hbm K r
    induction r with
    | zero =>
      intro k hkr
      obtain rfl : k = m := by omega
      refine z_iload F dX8_copy_101 rfl ?_
      refine z_iload F dX8_copy_103 rfl ?_
      refine z_ic_ge (tgt := 135) F dX8_copy_105 (by decide) (fun h_105 => ?_) (fun h_105 => absurd h_105 (fun z => absurd z (Int32.not_lt.mpr (Int32.le_refl _))))
      refine z_iconst (v := 0) F dX8_copy_135 (by decide) ?_
      refine z_istore (lv' := [_, _, _, _, _, _, _]) F dX8_copy_136 (by decide) rfl rfl ?_
      have Q := key2 q p a b k _ hq hp ham hbm K k 0 (by omega)
      rw [show mvL (mvL (M.2 (o + 14)) (16 * q + a) (M.2 (o + 15)) 0 k) 0 (M.2 (o + 14)) (16 * p + b) 0 = (zya M (o + 15) (mvL (M.2 (o + 14)) (16 * q + a) (M.2 (o + 15)) 0 k)).2 (o + 14) from (k14 _ _).symm, zya_self] at Q
      exact Q
    | succ r ih =>
      intro k hkr
      refine z_iload F dX8_copy_101 rfl ?_
      refine z_iload F dX8_copy_103 rfl ?_
      refine z_ic_ge (tgt := 135) F dX8_copy_105 (by decide) (fun h_105 => absurd h_105 (nI_ge (by omega) (by omega))) (fun h_105 => ?_)
      refine z_aload_n F dX8_copy_108 rfl ?_
      refine zg_X8_moved F (by with_reducible assumption) fl_X8_53 dX8_copy_109 (fun hk_109 => ?_)
      refine z_iload F dX8_copy_112 rfl ?_
      refine z_aload_n F dX8_copy_114 rfl ?_
      refine zg_X8_items F (by with_reducible assumption) fl_X8_49 dX8_copy_115 (fun hk_115 => ?_)
      refine z_bipush (v := 16) F dX8_copy_118 (by decide) ?_
      refine z_iload_n F dX8_copy_120 rfl ?_
      refine z_imul F dX8_copy_121 ?_
      refine z_iload_n F dX8_copy_122 rfl ?_
      refine z_iadd F dX8_copy_123 ?_
      refine z_iload F dX8_copy_124 rfl ?_
      refine z_iadd F dX8_copy_126 ?_
      refine z_lald14n (q := (((16 * q) + a) + k)) F (by with_reducible assumption) (by first | with_reducible rfl | (simp only [n4, n2, n3, n5, n14, n16, na1, na2, na3, nI_add, nI_1, nI_pred]; done) | (simp only [n4, n2, n3, n5, n14, n16, na1, na2, na3, nI_add, nI_1, nI_pred, Nat.add_assoc, Nat.add_comm, Nat.add_left_comm]; done)) (by rw [hz14]; omega) dX8_copy_127 ?_
      try simp only [k14]
      refine z_last14n (q := k) F (by with_reducible assumption) (by first | with_reducible rfl | (simp only [n4, n2, n3, n5, n14, n16, na1, na2, na3, nI_add, nI_1, nI_pred]; done) | (simp only [n4, n2, n3, n5, n14, n16, na1, na2, na3, nI_add, nI_1, nI_pred, Nat.add_assoc, Nat.add_comm, Nat.add_left_comm]; done)) (by rw [hz15]; omega) dX8_copy_128 ?_
      refine z_iincc (c := 1) (lv' := [_, _, _, _, _, _, _]) F dX8_copy_129 rfl (by decide) (by decide) rfl rfl ?_
      refine z_goto (tgt := 101) F dX8_copy_132 (by decide) ?_
      rw [nI_1, zy_zya]
      have Q := ih (k + 1) (by omega)
      rw [mvL, Nat.zero_add] at Q
      exact Q
  refine z_iload_n F dX8_copy_0 rfl ?_
  refine z_callSi F (c_X8_isSheet J) zm_X8_isSheet zst_X8_isSheet ml_X8_227 rfl rfl (Nat.le_of_ble_eq_true rfl) dX8_copy_1 (by omega) (fun r_1 M_1 h_1 => ?_)
  obtain ⟨e_1, rfl⟩ := h_1
  replace e_1 := Eq.symm e_1
  subst e_1
  refine z_if_eq (tgt := 14) F dX8_copy_4 (by decide) (fun h_4 => ?_) (fun h_4 => ?_)
  · replace h_4 := bI_0.mp h_4
    refine z_iconst (v := (-1)) F dX8_copy_14 (by decide) ?_
    refine z_iret F X dX8_copy_15 ?_
    exact Or.inl ⟨Or.inl (Classical.not_not.mp h_4), rfl, rfl⟩
  · replace h_4 := bI_1.mp h_4
    refine z_iload_n F dX8_copy_7 rfl ?_
    refine z_callSi F (c_X8_isSheet J) zm_X8_isSheet zst_X8_isSheet ml_X8_227 rfl rfl (Nat.le_of_ble_eq_true rfl) dX8_copy_8 (by omega) (fun r_8 M_8 h_8 => ?_)
    obtain ⟨e_8, rfl⟩ := h_8
    replace e_8 := Eq.symm e_8
    subst e_8
    refine z_if_ne (tgt := 16) F dX8_copy_11 (by decide) (fun h_11 => ?_) (fun h_11 => ?_)
    · replace h_11 := bI_1.mp h_11
      obtain ⟨q, hq, rfl⟩ := s4_in h_4
      obtain ⟨p, hp, rfl⟩ := s4_in h_11
      refine z_aload_n F dX8_copy_16 rfl ?_
      refine zg_X8_lanes F (by with_reducible assumption) fl_X8_43 dX8_copy_17 (fun hk_17 => ?_)
      refine z_iload_n F dX8_copy_20 rfl ?_
      refine z_iald10n (q := q) F (by with_reducible assumption) (by first | with_reducible rfl | (simp only [n4, n2, n3, n5, n14, n16, na1, na2, na3, nI_add, nI_1, nI_pred]; done) | (simp only [n4, n2, n3, n5, n14, n16, na1, na2, na3, nI_add, nI_1, nI_pred, Nat.add_assoc, Nat.add_comm, Nat.add_left_comm]; done)) (by rw [hz12]; omega) dX8_copy_21 ?_
      refine z_if_lt (tgt := 34) F dX8_copy_22 (by decide) (fun h_22 => ?_) (fun h_22 => ?_)
      · refine z_bipush (v := (-11)) F dX8_copy_34 (by decide) ?_
        refine z_iret F X dX8_copy_36 ?_
        exact Or.inr ⟨fun z => z.elim h_4 h_11, q, p, hq, hp, rfl, rfl, Or.inl ⟨Or.inl h_22, rfl, rfl⟩⟩
      · refine z_aload_n F dX8_copy_25 rfl ?_
        refine zg_X8_lanes F (by with_reducible assumption) fl_X8_43 dX8_copy_26 (fun hk_26 => ?_)
        refine z_iload_n F dX8_copy_29 rfl ?_
        refine z_iald10n (q := p) F (by with_reducible assumption) (by first | with_reducible rfl | (simp only [n4, n2, n3, n5, n14, n16, na1, na2, na3, nI_add, nI_1, nI_pred]; done) | (simp only [n4, n2, n3, n5, n14, n16, na1, na2, na3, nI_add, nI_1, nI_pred, Nat.add_assoc, Nat.add_comm, Nat.add_left_comm]; done)) (by rw [hz12]; omega) dX8_copy_30 ?_
        refine z_if_ge (tgt := 37) F dX8_copy_31 (by decide) (fun h_31 => ?_) (fun h_31 => ?_)
        · refine z_aload_n F dX8_copy_37 rfl ?_
          refine zg_X8_lanes F (by with_reducible assumption) fl_X8_43 dX8_copy_38 (fun hk_38 => ?_)
          refine z_iload_n F dX8_copy_41 rfl ?_
          refine z_iald10n (q := q) F (by with_reducible assumption) (by first | with_reducible rfl | (simp only [n4, n2, n3, n5, n14, n16, na1, na2, na3, nI_add, nI_1, nI_pred]; done) | (simp only [n4, n2, n3, n5, n14, n16, na1, na2, na3, nI_add, nI_1, nI_pred, Nat.add_assoc, Nat.add_comm, Nat.add_left_comm]; done)) (by rw [hz12]; omega) dX8_copy_42 ?_
          refine z_aload_n F dX8_copy_43 rfl ?_
          refine zg_X8_lanes F (by with_reducible assumption) fl_X8_43 dX8_copy_44 (fun hk_44 => ?_)
          refine z_iload_n F dX8_copy_47 rfl ?_
          refine z_iald10n (q := p) F (by with_reducible assumption) (by first | with_reducible rfl | (simp only [n4, n2, n3, n5, n14, n16, na1, na2, na3, nI_add, nI_1, nI_pred]; done) | (simp only [n4, n2, n3, n5, n14, n16, na1, na2, na3, nI_add, nI_1, nI_pred, Nat.add_assoc, Nat.add_comm, Nat.add_left_comm]; done)) (by rw [hz12]; omega) dX8_copy_48 ?_
          refine z_ic_eq (tgt := 55) F dX8_copy_49 (by decide) (fun h_49 => ?_) (fun h_49 => ?_)
          · refine z_iload F dX8_copy_55 rfl ?_
            refine z_if_lt (tgt := 95) F dX8_copy_57 (by decide) (fun h_57 => ?_) (fun h_57 => ?_)
            · refine z_bipush (v := (-13)) F dX8_copy_95 (by decide) ?_
              refine z_iret F X dX8_copy_97 ?_
              exact Or.inr ⟨fun z => z.elim h_4 h_11, q, p, hq, hp, rfl, rfl, Or.inr ⟨fun z => z.elim (nlt h_22) (nlt h_31), Or.inr ⟨h_49, Or.inl ⟨Or.inl h_57, rfl, rfl⟩⟩⟩⟩
            · obtain ⟨m, hm, rfl⟩ := nI_of (nlt h_57)
              refine z_aload_n F dX8_copy_60 rfl ?_
              refine z_iload_n F dX8_copy_61 rfl ?_
              refine z_aload_n F dX8_copy_62 rfl ?_
              refine zg_X8_lanes F (by with_reducible assumption) fl_X8_43 dX8_copy_63 (fun hk_63 => ?_)
              refine z_iload_n F dX8_copy_66 rfl ?_
              refine z_iald10n (q := q) F (by with_reducible assumption) (by first | with_reducible rfl | (simp only [n4, n2, n3, n5, n14, n16, na1, na2, na3, nI_add, nI_1, nI_pred]; done) | (simp only [n4, n2, n3, n5, n14, n16, na1, na2, na3, nI_add, nI_1, nI_pred, Nat.add_assoc, Nat.add_comm, Nat.add_left_comm]; done)) (by rw [hz12]; omega) dX8_copy_67 ?_
              refine z_iload_n F dX8_copy_68 rfl ?_
              refine z_iload F dX8_copy_69 rfl ?_
              refine z_callVi F (c_X8_why J hk ho hq) zm_X8_why zv_X8_why ml_X8_235 (by with_reducible assumption) (by decide) rfl rfl rfl (Nat.le_of_ble_eq_true rfl) dX8_copy_71 (by omega) (fun r_71 M_71 h_71 => ?_)
              obtain ⟨e_71, rfl⟩ := h_71
              replace e_71 := Eq.symm e_71
              subst e_71
              refine z_if_lt (tgt := 95) F dX8_copy_74 (by decide) (fun h_74 => ?_) (fun h_74 => ?_)
              · refine z_bipush (v := (-13)) F dX8_copy_95 (by decide) ?_
                refine z_iret F X dX8_copy_97 ?_
                exact Or.inr ⟨fun z => z.elim h_4 h_11, q, p, hq, hp, rfl, rfl, Or.inr ⟨fun z => z.elim (nlt h_22) (nlt h_31), Or.inr ⟨h_49, Or.inl ⟨Or.inr (Or.inl h_74), rfl, rfl⟩⟩⟩⟩
              · refine z_aload_n F dX8_copy_77 rfl ?_
                refine z_iload_n F dX8_copy_78 rfl ?_
                refine z_aload_n F dX8_copy_79 rfl ?_
                refine zg_X8_lanes F (by with_reducible assumption) fl_X8_43 dX8_copy_80 (fun hk_80 => ?_)
                refine z_iload_n F dX8_copy_83 rfl ?_
                refine z_iald10n (q := p) F (by with_reducible assumption) (by first | with_reducible rfl | (simp only [n4, n2, n3, n5, n14, n16, na1, na2, na3, nI_add, nI_1, nI_pred]; done) | (simp only [n4, n2, n3, n5, n14, n16, na1, na2, na3, nI_add, nI_1, nI_pred, Nat.add_assoc, Nat.add_comm, Nat.add_left_comm]; done)) (by rw [hz12]; omega) dX8_copy_84 ?_
                refine z_iload F dX8_copy_85 rfl ?_
                refine z_iload F dX8_copy_87 rfl ?_
                refine z_callVi F (c_X8_why J hk ho hp) zm_X8_why zv_X8_why ml_X8_235 (by with_reducible assumption) (by decide) rfl rfl rfl (Nat.le_of_ble_eq_true rfl) dX8_copy_89 (by omega) (fun r_89 M_89 h_89 => ?_)
                obtain ⟨e_89, rfl⟩ := h_89
                replace e_89 := Eq.symm e_89
                subst e_89
                refine z_if_ge (tgt := 98) F dX8_copy_92 (by decide) (fun h_92 => ?_) (fun h_92 => ?_)
                · obtain ⟨L1, hL1, hB1⟩ := hS q hq
                  obtain ⟨L2, hL2, hB2⟩ := hS p hp
                  obtain ⟨a, rfl, ha⟩ := why_ok2 hm hB1 hL1 (nlt h_74)
                  obtain ⟨b, rfl, hb⟩ := why_ok2 hm hB2 hL2 (nlt h_92)
                  refine z_iconst (v := 0) F dX8_copy_98 (by decide) ?_
                  refine z_istore (lv' := [_, _, _, _, _, _, _]) F dX8_copy_99 (by decide) rfl rfl ?_
                  have Q := key1 q p a b m hq hp (by omega) (by omega) (fun M2 hM2 => ?_) m 0 (by omega)
                  · rw [show mvL (M.2 (o + 14)) (16 * q + a) (M.2 (o + 15)) 0 0 = M.2 (o + 15) from rfl, zya_self] at Q
                    exact Q
                  · refine z_iload F dX8_copy_173 rfl ?_
                    refine z_iret F X dX8_copy_175 ?_
                    exact Or.inr ⟨fun z => z.elim h_4 h_11, q, p, hq, hp, rfl, rfl, Or.inr ⟨fun z => z.elim (nlt h_22) (nlt h_31), Or.inr ⟨h_49, Or.inr ⟨fun z => z.elim (nlt h_57) (fun z => z.elim (nlt h_74) (nlt h_92)), rfl, a, b, m, rfl, rfl, rfl, by omega, by omega, hM2⟩⟩⟩⟩
                · refine z_bipush (v := (-13)) F dX8_copy_95 (by decide) ?_
                  refine z_iret F X dX8_copy_97 ?_
                  exact Or.inr ⟨fun z => z.elim h_4 h_11, q, p, hq, hp, rfl, rfl, Or.inr ⟨fun z => z.elim (nlt h_22) (nlt h_31), Or.inr ⟨h_49, Or.inl ⟨Or.inr (Or.inr h_92), rfl, rfl⟩⟩⟩⟩
          · refine z_bipush (v := (-12)) F dX8_copy_52 (by decide) ?_
            refine z_iret F X dX8_copy_54 ?_
            exact Or.inr ⟨fun z => z.elim h_4 h_11, q, p, hq, hp, rfl, rfl, Or.inr ⟨fun z => z.elim (nlt h_22) (nlt h_31), Or.inl ⟨h_49, rfl, rfl⟩⟩⟩
        · refine z_bipush (v := (-11)) F dX8_copy_34 (by decide) ?_
          refine z_iret F X dX8_copy_36 ?_
          exact Or.inr ⟨fun z => z.elim h_4 h_11, q, p, hq, hp, rfl, rfl, Or.inl ⟨Or.inr h_31, rfl, rfl⟩⟩
    · replace h_11 := bI_0.mp h_11
      refine z_iconst (v := (-1)) F dX8_copy_14 (by decide) ?_
      refine z_iret F X dX8_copy_15 ?_
      exact Or.inl ⟨Or.inr (Classical.not_not.mp h_11), rfl, rfl⟩
