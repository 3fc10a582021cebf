/-! the reference's items, image and what is restored, in general -/
theorem lN_big {n : Nat} (h : n < 2 ^ 63) : (lN n).toInt = (n : Int) := by
  unfold lN
  exact Int64.toInt_ofNat_of_lt h
theorem why_ok {A B ln i : Int32} {m L : Nat} (hm : m ≤ 32) (hB : B = nI L) (hL : L ≤ 16) (h : ¬ whyF A B ln i (nI m) < 0) : ¬ A < 0 ∧ A = ln ∧ whyF A B ln i (nI m) = 0 ∧ ∃ a, i = nI a ∧ a + m ≤ L := by
  unfold whyF at *
  by_cases h1 : A < 0
  · rw [if_pos h1] at h; exact absurd (by decide) h
  · rw [if_neg h1] at h ⊢
    by_cases h2 : A = ln
    · rw [if_neg (fun q => q h2)] at h ⊢
      by_cases h3 : i < 0 ∨ B.toInt64 < i.toInt64 + (nI m).toInt64
      · rw [if_pos h3] at h; exact absurd (by decide) h
      · rw [if_neg h3]
        obtain ⟨a, ha, rfl⟩ := nI_of (fun q => h3 (Or.inl q))
        refine ⟨h1, h2, rfl, a, rfl, ?_⟩
        have h4 : ¬ B.toInt64 < (nI a).toInt64 + (nI m).toInt64 := fun q => h3 (Or.inr q)
        rw [hB, nI_l (by omega), nI_l (by omega), nI_l (by omega), lN_add, Int64.lt_iff_toInt_lt, lN_big (by omega), lN_big (by omega)] at h4
        omega
    · rw [if_pos h2] at h; exact absurd (by decide) h
theorem c_X8_puts {l : Launch} {w : zE} (J : zJ w) {M : zM} {o j a : Nat} {v : Int64} (hk : zk o = 8) (ho : o = 138) (hj : j < 4) (ha : a < 16) : zCv l w yX8_puts cX8_puts 6 0 [.ref (w.2.2 o), .int (nI j), .int (nI a), .long v] M (fun M2 => M2 = zy M (o + 14) (16 * j + a) (putF (M.1 (o + 12) j) v)) := by
  obtain ⟨hz1, hz2, hz3, hz4, hz5, hz6, hz7, hz8, hz9, hz10, hz11, hz12, hz13, hz14, hz15⟩ := zn8 ho
  refine zCv_of J zm_X8_puts [some (.ref (w.2.2 o)), some (.int (nI j)), some (.int (nI a)), some (.long v), none, none] (Nat.le_of_ble_eq_true rfl) rfl (fun g hg F X => ?_)
  subst hg
  refine z_aload_n F dX8_puts_0 rfl ?_
  refine zg_X8_lanes F (by with_reducible assumption) fl_X8_43 dX8_puts_1 (fun hk_1 => ?_)
  refine z_iload_n F dX8_puts_4 rfl ?_
  refine z_iald10n (q := j) F (by with_reducible assumption) (by first | with_reducible rfl | (simp only [n4, n2, n3, n5, n14, n16, na1, na2, na3, nI_add, nI_1, nI_pred]; done) | (simp only [n4, n2, n3, n5, n14, n16, na1, na2, na3, nI_add, nI_1, nI_pred, Nat.add_assoc, Nat.add_comm, Nat.add_left_comm]; done)) (by rw [hz12]; omega) dX8_puts_5 ?_
  refine z_istore (lv' := [_, _, _, _, _, _]) F dX8_puts_6 (by decide) rfl rfl ?_
  refine z_aload_n F dX8_puts_8 rfl ?_
  refine zg_X8_items F (by with_reducible assumption) fl_X8_49 dX8_puts_9 (fun hk_9 => ?_)
  refine z_bipush (v := 16) F dX8_puts_12 (by decide) ?_
  refine z_iload_n F dX8_puts_14 rfl ?_
  refine z_imul F dX8_puts_15 ?_
  refine z_iload_n F dX8_puts_16 rfl ?_
  refine z_iadd F dX8_puts_17 ?_
  refine z_iload F dX8_puts_18 rfl ?_
  refine z_if_ne (tgt := 30) F dX8_puts_20 (by decide) (fun h_20 => ?_) (fun h_20 => ?_)
  · refine z_iload F dX8_puts_30 rfl ?_
    refine z_iconst (v := 1) F dX8_puts_32 (by decide) ?_
    refine z_ic_ne (tgt := 43) F dX8_puts_33 (by decide) (fun h_33 => ?_) (fun h_33 => ?_)
    · refine z_iload F dX8_puts_43 rfl ?_
      refine z_iconst (v := 2) F dX8_puts_45 (by decide) ?_
      refine z_ic_ne (tgt := 55) F dX8_puts_46 (by decide) (fun h_46 => ?_) (fun h_46 => ?_)
      · refine z_lload_n F dX8_puts_55 rfl ?_
        refine z_last14n (q := ((16 * j) + a)) F (by with_reducible assumption) (by first | with_reducible rfl | (simp only [n4, n2, n3, n5, n14, n16, na1, na2, na3, nI_add, nI_1, nI_pred]; done) | (simp only [n4, n2, n3, n5, n14, n16, na1, na2, na3, nI_add, nI_1, nI_pred, Nat.add_assoc, Nat.add_comm, Nat.add_left_comm]; done)) (by rw [hz14]; omega) dX8_puts_56 ?_
        refine z_vret F X dX8_puts_57 ?_
        refine congrArg (zy M (o + 14) (16 * j + a)) ?_
        unfold putF
        simp_all
      · refine z_lload_n F dX8_puts_49 rfl ?_
        refine z_l2i F dX8_puts_50 ?_
        refine z_i2l F dX8_puts_51 ?_
        refine z_goto (tgt := 56) F dX8_puts_52 (by decide) ?_
        refine z_last14n (q := ((16 * j) + a)) F (by with_reducible assumption) (by first | with_reducible rfl | (simp only [n4, n2, n3, n5, n14, n16, na1, na2, na3, nI_add, nI_1, nI_pred]; done) | (simp only [n4, n2, n3, n5, n14, n16, na1, na2, na3, nI_add, nI_1, nI_pred, Nat.add_assoc, Nat.add_comm, Nat.add_left_comm]; done)) (by rw [hz14]; omega) dX8_puts_56 ?_
        refine z_vret F X dX8_puts_57 ?_
        refine congrArg (zy M (o + 14) (16 * j + a)) ?_
        unfold putF
        simp_all
    · refine z_lload_n F dX8_puts_36 rfl ?_
      refine z_l2i F dX8_puts_37 ?_
      refine z_i2s F dX8_puts_38 ?_
      refine z_i2l F dX8_puts_39 ?_
      refine z_goto (tgt := 56) F dX8_puts_40 (by decide) ?_
      refine z_last14n (q := ((16 * j) + a)) F (by with_reducible assumption) (by first | with_reducible rfl | (simp only [n4, n2, n3, n5, n14, n16, na1, na2, na3, nI_add, nI_1, nI_pred]; done) | (simp only [n4, n2, n3, n5, n14, n16, na1, na2, na3, nI_add, nI_1, nI_pred, Nat.add_assoc, Nat.add_comm, Nat.add_left_comm]; done)) (by rw [hz14]; omega) dX8_puts_56 ?_
      refine z_vret F X dX8_puts_57 ?_
      refine congrArg (zy M (o + 14) (16 * j + a)) ?_
      unfold putF
      simp_all
  · refine z_lload_n F dX8_puts_23 rfl ?_
    refine z_l2i F dX8_puts_24 ?_
    refine z_i2b F dX8_puts_25 ?_
    refine z_i2l F dX8_puts_26 ?_
    refine z_goto (tgt := 56) F dX8_puts_27 (by decide) ?_
    refine z_last14n (q := ((16 * j) + a)) F (by with_reducible assumption) (by first | with_reducible rfl | (simp only [n4, n2, n3, n5, n14, n16, na1, na2, na3, nI_add, nI_1, nI_pred]; done) | (simp only [n4, n2, n3, n5, n14, n16, na1, na2, na3, nI_add, nI_1, nI_pred, Nat.add_assoc, Nat.add_comm, Nat.add_left_comm]; done)) (by rw [hz14]; omega) dX8_puts_56 ?_
    refine z_vret F X dX8_puts_57 ?_
    refine congrArg (zy M (o + 14) (16 * j + a)) ?_
    unfold putF
    simp_all
def szOK (f : zF1) : Prop := ∀ q, q < 4 → ∃ L, L ≤ 16 ∧ f q = nI L
theorem c_X8_item {l : Launch} {w : zE} (J : zJ w) {M : zM} {o : Nat} {x ln i : Int32} {v : Int64} (hk : zk o = 8) (ho : o = 138) (hS : szOK (M.1 (o + 13))) : zCi l w yX8_item cX8_item 7 (some .int) 2 [.ref (w.2.2 o), .int x, .int ln, .int i, .long v] M (fun r M2 => (((x < 0 ∨ 3 < x) ∨ (ln < 0 ∨ 3 < ln)) ∧ r = -1 ∧ M2 = M) ∨ (¬ ((x < 0 ∨ 3 < x) ∨ (ln < 0 ∨ 3 < ln)) ∧ ∃ j, j < 4 ∧ x = nI j ∧ ((whyF (M.1 (o + 12) j) (M.1 (o + 13) j) ln i 1 < 0 ∧ r = whyF (M.1 (o + 12) j) (M.1 (o + 13) j) ln i 1 ∧ M2 = M) ∨ (¬ whyF (M.1 (o + 12) j) (M.1 (o + 13) j) ln i 1 < 0 ∧ r = 1 ∧ ∃ a, i = nI a ∧ a < 16 ∧ M2 = zy M (o + 14) (16 * j + a) (putF (M.1 (o + 12) j) v))))) := by
  obtain ⟨hz1, hz2, hz3, hz4, hz5, hz6, hz7, hz8, hz9, hz10, hz11, hz12, hz13, hz14, hz15⟩ := zn8 ho
  refine zCi_of J zm_X8_item [some (.ref (w.2.2 o)), some (.int x), some (.int ln), some (.int i), some (.long v), none, none] (Nat.le_of_ble_eq_true rfl) rfl (fun g hg F X => ?_)
  subst hg
  refine z_iload_n F dX8_item_0 rfl ?_
  refine z_callSi F (c_X8_isSheet J) zm_X8_isSheet zst_X8_isSheet ml_X8_227 rfl rfl (Nat.le_of_ble_eq_true rfl) dX8_item_1 (by omega) (fun r_1 M_1 h_1 => ?_)
  obtain ⟨e_1, rfl⟩ := h_1
  replace e_1 := Eq.symm e_1
  subst e_1
  refine z_if_eq (tgt := 14) F dX8_item_4 (by decide) (fun h_4 => ?_) (fun h_4 => ?_)
  · replace h_4 := bI_0.mp h_4
    refine z_iconst (v := (-1)) F dX8_item_14 (by decide) ?_
    refine z_iret F X dX8_item_15 ?_
    exact Or.inl ⟨Or.inl (Classical.not_not.mp h_4), rfl, rfl⟩
  · replace h_4 := bI_1.mp h_4
    refine z_iload_n F dX8_item_7 rfl ?_
    refine z_callSi F (c_X8_isLane J) zm_X8_isLane zst_X8_isLane ml_X8_230 rfl rfl (Nat.le_of_ble_eq_true rfl) dX8_item_8 (by omega) (fun r_8 M_8 h_8 => ?_)
    obtain ⟨e_8, rfl⟩ := h_8
    replace e_8 := Eq.symm e_8
    subst e_8
    refine z_if_ne (tgt := 16) F dX8_item_11 (by decide) (fun h_11 => ?_) (fun h_11 => ?_)
    · replace h_11 := bI_1.mp h_11
      obtain ⟨j, hj, rfl⟩ := s4_in h_4
      refine z_aload_n F dX8_item_16 rfl ?_
      refine z_iload_n F dX8_item_17 rfl ?_
      refine z_iload_n F dX8_item_18 rfl ?_
      refine z_iload_n F dX8_item_19 rfl ?_
      refine z_iconst (v := 1) F dX8_item_20 (by decide) ?_
      refine z_callVi F (c_X8_why J hk ho hj) zm_X8_why zv_X8_why ml_X8_235 (by with_reducible assumption) (by decide) rfl rfl rfl (Nat.le_of_ble_eq_true rfl) dX8_item_21 (by omega) (fun r_21 M_21 h_21 => ?_)
      obtain ⟨e_21, rfl⟩ := h_21
      replace e_21 := Eq.symm e_21
      subst e_21
      refine z_istore (lv' := [_, _, _, _, _, _, _]) F dX8_item_24 (by decide) rfl rfl ?_
      refine z_iload F dX8_item_26 rfl ?_
      refine z_if_ge (tgt := 34) F dX8_item_28 (by decide) (fun h_28 => ?_) (fun h_28 => ?_)
      · obtain ⟨L, hL, hB⟩ := hS j hj
        obtain ⟨-, -, -, a, rfl, haL⟩ := why_ok (m := 1) (by decide) hB hL (nlt h_28)
        have ha : a < 16 := by omega
        refine z_aload_n F dX8_item_34 rfl ?_
        refine z_iload_n F dX8_item_35 rfl ?_
        refine z_iload_n F dX8_item_36 rfl ?_
        refine z_lload F dX8_item_37 rfl ?_
        refine z_callVv F (c_X8_puts J hk ho hj ha) zm_X8_puts zv_X8_puts ml_X8_239 (by with_reducible assumption) (by decide) rfl rfl rfl (Nat.le_of_ble_eq_true rfl) dX8_item_39 (by omega) (fun M_39 h_39 => ?_)
        replace h_39 := Eq.symm h_39
        subst h_39
        refine z_iconst (v := 1) F dX8_item_42 (by decide) ?_
        refine z_iret F X dX8_item_43 ?_
        exact Or.inr ⟨fun q => q.elim h_4 h_11, j, hj, rfl, Or.inr ⟨nlt h_28, rfl, a, rfl, ha, rfl⟩⟩
      · refine z_iload F dX8_item_31 rfl ?_
        refine z_iret F X dX8_item_33 ?_
        exact Or.inr ⟨fun q => q.elim h_4 h_11, j, hj, rfl, Or.inl ⟨h_28, rfl, rfl⟩⟩
    · replace h_11 := bI_0.mp h_11
      refine z_iconst (v := (-1)) F dX8_item_14 (by decide) ?_
      refine z_iret F X dX8_item_15 ?_
      exact Or.inl ⟨Or.inr (Classical.not_not.mp h_11), rfl, rfl⟩
/-- what comes back out of the image -/
def gvL (f : zF1) (k0 : Nat) (g : zF1) : Nat → zF1
  | 0 => g
  | n + 1 => va_up (gvL f k0 g n) n (f (k0 + n))
theorem c_X8_gives {l : Launch} {w : zE} (J : zJ w) {M : zM} {o b k0 : Nat} (hk : zk o = 8) (ho : o = 138) (hb : zk b = 10) (hne : b ≠ o + 11) (h0 : k0 + zn b ≤ 187) : zCi l w yX8_gives cX8_gives 4 (some .int) 0 [.ref (w.2.2 o), .int (nI k0), .ref (w.2.2 b)] M (fun r M2 => r = nI (k0 + zn b) ∧ M2 = za M b (gvL (M.1 (o + 11)) k0 (M.1 b) (zn b))) := by
  obtain ⟨hz1, hz2, hz3, hz4, hz5, hz6, hz7, hz8, hz9, hz10, hz11, hz12, hz13, hz14, hz15⟩ := zn8 ho
  have hne2 : o + 11 ≠ b := fun q => hne q.symm
  refine zCi_of J zm_X8_gives [some (.ref (w.2.2 o)), some (.int (nI k0)), some (.ref (w.2.2 b)), none] (Nat.le_of_ble_eq_true rfl) rfl (fun g hg F X => ?_)
  subst hg
  have key : ∀ (r k : Nat), k + r = zn b → ZW w g 4 2 [some (.ref (w.2.2 o)), some (.int (nI k0)), some (.ref (w.2.2 b)), some (.int (nI k))] [] (za M b (gvL (M.1 (o + 11)) k0 (M.1 b) k)) := by
    intro r
    induction r with
    | zero =>
      intro k hkr
      obtain rfl : k = zn b := by omega
      refine z_iload_n F dX8_gives_2 rfl ?_
      refine z_aload_n F dX8_gives_3 rfl ?_
      refine z_alen10 F (by with_reducible assumption) dX8_gives_4 ?_
      refine z_ic_ge (tgt := 25) F dX8_gives_5 (by decide) (fun h_5 => ?_) (fun h_5 => absurd h_5 (fun q => absurd q (Int32.not_lt.mpr (Int32.le_refl _))))
      refine z_iload_n F dX8_gives_25 rfl ?_
      refine z_aload_n F dX8_gives_26 rfl ?_
      refine z_alen10 F (by with_reducible assumption) dX8_gives_27 ?_
      refine z_iadd F dX8_gives_28 ?_
      refine z_iret F X dX8_gives_29 ?_
      exact ⟨nI_add _ _, rfl⟩
    | succ r ih =>
      intro k hkr
      refine z_iload_n F dX8_gives_2 rfl ?_
      refine z_aload_n F dX8_gives_3 rfl ?_
      refine z_alen10 F (by with_reducible assumption) dX8_gives_4 ?_
      refine z_ic_ge (tgt := 25) F dX8_gives_5 (by decide) (fun h_5 => absurd h_5 (nI_ge (by omega) (by omega))) (fun h_5 => ?_)
      refine z_aload_n F dX8_gives_8 rfl ?_
      refine z_iload_n F dX8_gives_9 rfl ?_
      refine z_aload_n F dX8_gives_10 rfl ?_
      refine zg_X8_image F (by with_reducible assumption) fl_X8_40 dX8_gives_11 (fun hk_11 => ?_)
      refine z_iload_n F dX8_gives_14 rfl ?_
      refine z_iload_n F dX8_gives_15 rfl ?_
      refine z_iadd F dX8_gives_16 ?_
      refine z_iald10n (q := (k0 + k)) F (by with_reducible assumption) (by first | with_reducible rfl | (simp only [n4, n2, n3, n5, n14, n16, na1, na2, na3, nI_add, nI_1, nI_pred]; done) | (simp only [n4, n2, n3, n5, n14, n16, na1, na2, na3, nI_add, nI_1, nI_pred, Nat.add_assoc, Nat.add_comm, Nat.add_left_comm]; done)) (by rw [hz11]; omega) dX8_gives_17 ?_
      try simp only [za_off _ hne2]
      refine z_iast10n (q := k) F (by with_reducible assumption) (by first | with_reducible rfl | (simp only [n4, n2, n3, n5, n14, n16, na1, na2, na3, nI_add, nI_1, nI_pred]; done) | (simp only [n4, n2, n3, n5, n14, n16, na1, na2, na3, nI_add, nI_1, nI_pred, Nat.add_assoc, Nat.add_comm, Nat.add_left_comm]; done)) (by omega) dX8_gives_18 ?_
      refine z_iincc (c := 1) (lv' := [_, _, _, _]) F dX8_gives_19 rfl (by decide) (by decide) rfl rfl ?_
      refine z_goto (tgt := 2) F dX8_gives_22 (by decide) ?_
      rw [nI_1, zs_zaa]
      exact ih (k + 1) (by omega)
  refine z_iconst (v := 0) F dX8_gives_0 (by decide) ?_
  refine z_istore_n (lv' := [_, _, _, _]) F dX8_gives_1 (by decide) rfl rfl ?_
  have K := key (zn b) 0 (by omega)
  rw [show gvL (M.1 (o + 11)) k0 (M.1 b) 0 = M.1 b from rfl, za_self] at K
  exact K
/-- the image's row, and what it gives back -/
def imF (M : zM) (o : Nat) : zF1 := ntL (M.1 (o + 7)) 75 (ntL (M.1 (o + 3)) 61 (ntL (M.1 (o + 2)) 45 (ntL (M.1 (o + 1)) 5 (va_up (va_up (va_up (va_up (va_up (M.1 (o + 11)) 0 (M.1 o 0)) 1 (M.1 o 1)) 2 (M.1 o 5)) 3 (M.1 o 6)) 4 (M.1 o 20)) 40) 16) 14) 112
theorem c_X8_image {l : Launch} {w : zE} (J : zJ w) {M : zM} {o : Nat} (hk : zk o = 8) (ho : o = 138) : zCi l w yX8_image cX8_image 2 (some .int) 1 [.ref (w.2.2 o)] M (fun r M2 => r = 1 ∧ M2 = zs (za M (o + 11) (imF M o)) o 25 1) := by
  obtain ⟨hz1, hz2, hz3, hz4, hz5, hz6, hz7, hz8, hz9, hz10, hz11, hz12, hz13, hz14, hz15⟩ := zn8 ho
  have e0 : ∀ (f : zF1), (za M (o + 11) f).1 o = M.1 o := fun f => za_off _ (by omega)
  have e1 : ∀ (f : zF1), (za M (o + 11) f).1 (o + 1) = M.1 (o + 1) := fun f => za_off _ (by omega)
  have e2 : ∀ (f : zF1), (za M (o + 11) f).1 (o + 2) = M.1 (o + 2) := fun f => za_off _ (by omega)
  have e3 : ∀ (f : zF1), (za M (o + 11) f).1 (o + 3) = M.1 (o + 3) := fun f => za_off _ (by omega)
  have e7 : ∀ (f : zF1), (za M (o + 11) f).1 (o + 7) = M.1 (o + 7) := fun f => za_off _ (by omega)
  have eM : M = za M (o + 11) (M.1 (o + 11)) := (za_self _ _).symm
  refine zCi_of J zm_X8_image [some (.ref (w.2.2 o)), none] (Nat.le_of_ble_eq_true rfl) rfl (fun g hg F X => ?_)
  subst hg
  rw [eM]
  refine z_aload_n F dX8_image_0 rfl ?_
  refine zg_X8_image F (by with_reducible assumption) fl_X8_40 dX8_image_1 (fun hk_1 => ?_)
  refine z_iconst (v := 0) F dX8_image_4 (by decide) ?_
  refine z_aload_n F dX8_image_5 rfl ?_
  refine zg_X8_things F (by with_reducible assumption) fl_X8_69 dX8_image_6 ?_
  try simp only [zs_zaa, e0]
  refine z_iast10n (q := 0) F (by with_reducible assumption) (by decide) (by rw [hz11]; omega) dX8_image_9 ?_
  refine z_aload_n F dX8_image_10 rfl ?_
  refine zg_X8_image F (by with_reducible assumption) fl_X8_40 dX8_image_11 (fun hk_11 => ?_)
  refine z_iconst (v := 1) F dX8_image_14 (by decide) ?_
  refine z_aload_n F dX8_image_15 rfl ?_
  refine zg_X8_people F (by with_reducible assumption) fl_X8_76 dX8_image_16 ?_
  try simp only [zs_zaa, e0]
  refine z_iast10n (q := 1) F (by with_reducible assumption) (by decide) (by rw [hz11]; omega) dX8_image_19 ?_
  refine z_aload_n F dX8_image_20 rfl ?_
  refine zg_X8_image F (by with_reducible assumption) fl_X8_40 dX8_image_21 (fun hk_21 => ?_)
  refine z_iconst (v := 2) F dX8_image_24 (by decide) ?_
  refine z_aload_n F dX8_image_25 rfl ?_
  refine zg_X8_heed F (by with_reducible assumption) fl_X8_60 dX8_image_26 ?_
  try simp only [zs_zaa, e0]
  refine z_iast10n (q := 2) F (by with_reducible assumption) (by decide) (by rw [hz11]; omega) dX8_image_29 ?_
  refine z_aload_n F dX8_image_30 rfl ?_
  refine zg_X8_image F (by with_reducible assumption) fl_X8_40 dX8_image_31 (fun hk_31 => ?_)
  refine z_iconst (v := 3) F dX8_image_34 (by decide) ?_
  refine z_aload_n F dX8_image_35 rfl ?_
  refine zg_X8_well F (by with_reducible assumption) fl_X8_56 dX8_image_36 ?_
  try simp only [zs_zaa, e0]
  refine z_iast10n (q := 3) F (by with_reducible assumption) (by decide) (by rw [hz11]; omega) dX8_image_39 ?_
  refine z_aload_n F dX8_image_40 rfl ?_
  refine zg_X8_image F (by with_reducible assumption) fl_X8_40 dX8_image_41 (fun hk_41 => ?_)
  refine z_iconst (v := 4) F dX8_image_44 (by decide) ?_
  refine z_aload_n F dX8_image_45 rfl ?_
  refine zg_X8_undos F (by with_reducible assumption) fl_X8_66 dX8_image_46 ?_
  try simp only [zs_zaa, e0]
  refine z_iast10n (q := 4) F (by with_reducible assumption) (by decide) (by rw [hz11]; omega) dX8_image_49 ?_
  refine z_aload_n F dX8_image_50 rfl ?_
  refine z_aload_n F dX8_image_51 rfl ?_
  refine zg_X8_thing F (by with_reducible assumption) fl_X8_7 dX8_image_52 (fun hk_52 => ?_)
  refine z_iconst (v := 5) F dX8_image_55 (by decide) ?_
  refine z_callVi F (c_X8_notesRow J (k0 := 5) hk ho hk_52 (by omega) (by rw [hz1]; decide)) zm_X8_notesRow zv_X8_notesRow ml_X8_216 (by with_reducible assumption) (by decide) rfl rfl rfl (Nat.le_of_ble_eq_true rfl) dX8_image_56 (by omega) (fun r_56 M_56 h_56 => ?_)
  obtain ⟨e_56, f_56⟩ := h_56
  simp only [hz1, hz2, hz3, hz7] at e_56
  subst e_56
  simp only [zs_zaa, za_at, za_za, e0, e1, e2, e3, e7, hz1, hz2, hz3, hz7] at f_56
  subst f_56
  refine z_istore_n (lv' := [_, _]) F dX8_image_59 (by decide) rfl rfl ?_
  refine z_aload_n F dX8_image_60 rfl ?_
  refine z_aload_n F dX8_image_61 rfl ?_
  refine zg_X8_person F (by with_reducible assumption) fl_X8_13 dX8_image_62 (fun hk_62 => ?_)
  refine z_iload_n F dX8_image_65 rfl ?_
  refine z_callVi F (c_X8_notesRow J (k0 := 45) hk ho hk_62 (by omega) (by rw [hz2]; decide)) zm_X8_notesRow zv_X8_notesRow ml_X8_216 (by with_reducible assumption) (by decide) rfl rfl rfl (Nat.le_of_ble_eq_true rfl) dX8_image_66 (by omega) (fun r_66 M_66 h_66 => ?_)
  obtain ⟨e_66, f_66⟩ := h_66
  simp only [hz1, hz2, hz3, hz7] at e_66
  subst e_66
  simp only [zs_zaa, za_at, za_za, e0, e1, e2, e3, e7, hz1, hz2, hz3, hz7] at f_66
  subst f_66
  refine z_istore_n (lv' := [_, _]) F dX8_image_69 (by decide) rfl rfl ?_
  refine z_aload_n F dX8_image_70 rfl ?_
  refine z_aload_n F dX8_image_71 rfl ?_
  refine zg_X8_now F (by with_reducible assumption) fl_X8_16 dX8_image_72 (fun hk_72 => ?_)
  refine z_iload_n F dX8_image_75 rfl ?_
  refine z_callVi F (c_X8_notesRow J (k0 := 61) hk ho hk_72 (by omega) (by rw [hz3]; decide)) zm_X8_notesRow zv_X8_notesRow ml_X8_216 (by with_reducible assumption) (by decide) rfl rfl rfl (Nat.le_of_ble_eq_true rfl) dX8_image_76 (by omega) (fun r_76 M_76 h_76 => ?_)
  obtain ⟨e_76, f_76⟩ := h_76
  simp only [hz1, hz2, hz3, hz7] at e_76
  subst e_76
  simp only [zs_zaa, za_at, za_za, e0, e1, e2, e3, e7, hz1, hz2, hz3, hz7] at f_76
  subst f_76
  refine z_istore_n (lv' := [_, _]) F dX8_image_79 (by decide) rfl rfl ?_
  refine z_aload_n F dX8_image_80 rfl ?_
  refine z_aload_n F dX8_image_81 rfl ?_
  refine zg_X8_undone F (by with_reducible assumption) fl_X8_28 dX8_image_82 (fun hk_82 => ?_)
  refine z_iload_n F dX8_image_85 rfl ?_
  refine z_callVi F (c_X8_notesRow J (k0 := 75) hk ho hk_82 (by omega) (by rw [hz7]; decide)) zm_X8_notesRow zv_X8_notesRow ml_X8_216 (by with_reducible assumption) (by decide) rfl rfl rfl (Nat.le_of_ble_eq_true rfl) dX8_image_86 (by omega) (fun r_86 M_86 h_86 => ?_)
  obtain ⟨e_86, f_86⟩ := h_86
  simp only [hz1, hz2, hz3, hz7] at e_86
  subst e_86
  simp only [zs_zaa, za_at, za_za, e0, e1, e2, e3, e7, hz1, hz2, hz3, hz7] at f_86
  subst f_86
  refine z_pop F dX8_image_89 rfl ?_
  refine z_aload_n F dX8_image_90 rfl ?_
  refine z_iconst (v := 1) F dX8_image_91 (by decide) ?_
  refine zp_X8_isImage F (by with_reducible assumption) fl_X8_220 (by decide) (by decide) dX8_image_92 ?_
  refine z_iconst (v := 1) F dX8_image_95 (by decide) ?_
  refine z_iret F X dX8_image_96 ?_
  exact ⟨rfl, rfl⟩
