theorem c_X7_sheet {l : Launch} {w : zE} (J : zJ w) {M : zM} {o : Nat} {x ln n : Int32} (hk : zk o = 7) : zCi l w yX7_sheet cX7_sheet 4 (some .int) 3 [.ref (w.2.2 o), .int x, .int ln, .int n] M (fun r M2 => (((x < 0 ∨ 3 < x) ∨ (ln < 0 ∨ 3 < ln) ∨ 16 < n) ∧ r = -1 ∧ M2 = M) ∨ (¬ ((x < 0 ∨ 3 < x) ∨ (ln < 0 ∨ 3 < ln) ∨ 16 < n) ∧ ((n < 0 ∧ r = -14 ∧ M2 = M) ∨ (¬ n < 0 ∧ r = n ∧ M2 = zya (zs (zs (zs M (o + 129 + 1 + 2 * x.toNatClampNeg) 0 1) (o + 129 + 1 + 2 * x.toNatClampNeg) 1 ln) (o + 129 + 1 + 2 * x.toNatClampNeg) 2 n) (o + 129 + 1 + 2 * x.toNatClampNeg + 1) (fun _ => 0))))) := by
  refine zCi_of J zm_X7_sheet [some (.ref (w.2.2 o)), some (.int x), some (.int ln), some (.int n)] (Nat.le_of_ble_eq_true rfl) rfl (fun g hg F X => ?_)
  subst hg
  refine z_iload_n F dX7_sheet_0 rfl ?_
  refine z_iconst (v := 3) F dX7_sheet_1 (by decide) ?_
  refine z_callSi F (c_X7_isNot J) zm_X7_isNot zst_X7_isNot ml_X7_40 rfl rfl (Nat.le_of_ble_eq_true rfl) dX7_sheet_2 (by omega) (fun r_2 M_2 h_2 => ?_)
  obtain ⟨e_2, rfl⟩ := h_2
  replace e_2 := Eq.symm e_2
  subst e_2
  refine z_if_ne (tgt := 22) F dX7_sheet_5 (by decide) (fun h_5 => ?_) (fun h_5 => ?_)
  · replace h_5 := bI_1.mp h_5
    refine z_iconst (v := (-1)) F dX7_sheet_22 (by decide) ?_
    refine z_iret F X dX7_sheet_23 ?_
    refine Or.inl ⟨?_, rfl, rfl⟩
    first | exact Or.inl h_5 | exact Or.inr (Or.inl h_13) | exact Or.inr (Or.inr h_19)
  · replace h_5 := bI_0.mp h_5
    refine z_iload_n F dX7_sheet_8 rfl ?_
    refine z_iconst (v := 3) F dX7_sheet_9 (by decide) ?_
    refine z_callSi F (c_X7_isNot J) zm_X7_isNot zst_X7_isNot ml_X7_40 rfl rfl (Nat.le_of_ble_eq_true rfl) dX7_sheet_10 (by omega) (fun r_10 M_10 h_10 => ?_)
    obtain ⟨e_10, rfl⟩ := h_10
    replace e_10 := Eq.symm e_10
    subst e_10
    refine z_if_ne (tgt := 22) F dX7_sheet_13 (by decide) (fun h_13 => ?_) (fun h_13 => ?_)
    · replace h_13 := bI_1.mp h_13
      refine z_iconst (v := (-1)) F dX7_sheet_22 (by decide) ?_
      refine z_iret F X dX7_sheet_23 ?_
      refine Or.inl ⟨?_, rfl, rfl⟩
      first | exact Or.inl h_5 | exact Or.inr (Or.inl h_13) | exact Or.inr (Or.inr h_19)
    · replace h_13 := bI_0.mp h_13
      refine z_iload_n F dX7_sheet_16 rfl ?_
      refine z_bipush (v := 16) F dX7_sheet_17 (by decide) ?_
      refine z_ic_le (tgt := 24) F dX7_sheet_19 (by decide) (fun h_19 => ?_) (fun h_19 => ?_)
      · refine z_iload_n F dX7_sheet_24 rfl ?_
        refine z_if_ge (tgt := 31) F dX7_sheet_25 (by decide) (fun h_25 => ?_) (fun h_25 => ?_)
        · refine z_aload_n F dX7_sheet_31 rfl ?_
          refine zg_X7_sheets F (by with_reducible assumption) fl_X7_35 dX7_sheet_32 (fun hk_32 => ?_)
          refine z_iload_n F dX7_sheet_35 rfl ?_
          refine z_aald15 F (by with_reducible assumption) (in4 h_5) dX7_sheet_36 (fun hk_36 => ?_)
          refine z_iload_n F dX7_sheet_37 rfl ?_
          refine z_iload_n F dX7_sheet_38 rfl ?_
          refine z_callVv F (c_X2_renew J (by with_reducible assumption)) zm_X2_renew zv_X2_renew ml_X7_251 (by with_reducible assumption) (by decide) rfl rfl rfl (Nat.le_of_ble_eq_true rfl) dX7_sheet_39 (by omega) (fun M_39 h_39 => ?_)
          replace h_39 := Eq.symm h_39
          subst h_39
          refine z_iload_n F dX7_sheet_42 rfl ?_
          refine z_iret F X dX7_sheet_43 ?_
          exact Or.inr ⟨fun q => q.elim h_5 (fun q => q.elim h_13 (nlt h_19)), Or.inr ⟨nlt h_25, rfl, rfl⟩⟩
        · refine z_bipush (v := (-14)) F dX7_sheet_28 (by decide) ?_
          refine z_iret F X dX7_sheet_30 ?_
          exact Or.inr ⟨fun q => q.elim h_5 (fun q => q.elim h_13 (nlt h_19)), Or.inl ⟨h_25, rfl, rfl⟩⟩
      · refine z_iconst (v := (-1)) F dX7_sheet_22 (by decide) ?_
        refine z_iret F X dX7_sheet_23 ?_
        refine Or.inl ⟨?_, rfl, rfl⟩
        first | exact Or.inl h_5 | exact Or.inr (Or.inl h_13) | exact Or.inr (Or.inr h_19)
theorem c_X7_drop {l : Launch} {w : zE} (J : zJ w) {M : zM} {o : Nat} {x : Int32} (hk : zk o = 7) : zCi l w yX7_drop cX7_drop 2 (some .int) 1 [.ref (w.2.2 o), .int x] M (fun r M2 => ((x < 0 ∨ 3 < x) ∧ r = -1 ∧ M2 = M) ∨ (¬ (x < 0 ∨ 3 < x) ∧ ((M.1 (o + 129 + 1 + 2 * x.toNatClampNeg) 0 = 0 ∧ r = -11 ∧ M2 = M) ∨ (¬ M.1 (o + 129 + 1 + 2 * x.toNatClampNeg) 0 = 0 ∧ r = M.1 (o + 129 + 1 + 2 * x.toNatClampNeg) 2 ∧ M2 = zs M (o + 129 + 1 + 2 * x.toNatClampNeg) 0 0)))) := by
  refine zCi_of J zm_X7_drop [some (.ref (w.2.2 o)), some (.int x)] (Nat.le_of_ble_eq_true rfl) rfl (fun g hg F X => ?_)
  subst hg
  refine z_iload_n F dX7_drop_0 rfl ?_
  refine z_iconst (v := 3) F dX7_drop_1 (by decide) ?_
  refine z_callSi F (c_X7_isNot J) zm_X7_isNot zst_X7_isNot ml_X7_40 rfl rfl (Nat.le_of_ble_eq_true rfl) dX7_drop_2 (by omega) (fun r_2 M_2 h_2 => ?_)
  obtain ⟨e_2, rfl⟩ := h_2
  replace e_2 := Eq.symm e_2
  subst e_2
  refine z_if_eq (tgt := 10) F dX7_drop_5 (by decide) (fun h_5 => ?_) (fun h_5 => ?_)
  · replace h_5 := bI_0.mp h_5
    refine z_aload_n F dX7_drop_10 rfl ?_
    refine zg_X7_sheets F (by with_reducible assumption) fl_X7_35 dX7_drop_11 (fun hk_11 => ?_)
    refine z_iload_n F dX7_drop_14 rfl ?_
    refine z_aald15 F (by with_reducible assumption) (in4 h_5) dX7_drop_15 (fun hk_15 => ?_)
    refine zg_X2_isThere F (by with_reducible assumption) fl_X7_255 dX7_drop_16 ?_
    refine z_if_ne (tgt := 25) F dX7_drop_19 (by decide) (fun h_19 => ?_) (fun h_19 => ?_)
    · refine z_aload_n F dX7_drop_25 rfl ?_
      refine zg_X7_sheets F (by with_reducible assumption) fl_X7_35 dX7_drop_26 (fun hk_26 => ?_)
      refine z_iload_n F dX7_drop_29 rfl ?_
      refine z_aald15 F (by with_reducible assumption) (in4 h_5) dX7_drop_30 (fun hk_30 => ?_)
      refine z_iconst (v := 0) F dX7_drop_31 (by decide) ?_
      refine zp_X2_isThere F (by with_reducible assumption) fl_X7_255 (by decide) (by decide) dX7_drop_32 ?_
      refine z_aload_n F dX7_drop_35 rfl ?_
      refine zg_X7_sheets F (by with_reducible assumption) fl_X7_35 dX7_drop_36 (fun hk_36 => ?_)
      refine z_iload_n F dX7_drop_39 rfl ?_
      refine z_aald15 F (by with_reducible assumption) (in4 h_5) dX7_drop_40 (fun hk_40 => ?_)
      refine zg_X2_length F (by with_reducible assumption) fl_X7_258 dX7_drop_41 ?_
      refine z_iret F X dX7_drop_44 ?_
      refine Or.inr ⟨h_5, Or.inr ⟨h_19, ?_, rfl⟩⟩
      rw [zs_at, va_up_ne _ _ (by decide)]
    · refine z_bipush (v := (-11)) F dX7_drop_22 (by decide) ?_
      refine z_iret F X dX7_drop_24 ?_
      exact Or.inr ⟨h_5, Or.inl ⟨h_19, rfl, rfl⟩⟩
  · replace h_5 := bI_1.mp h_5
    refine z_iconst (v := (-1)) F dX7_drop_8 (by decide) ?_
    refine z_iret F X dX7_drop_9 ?_
    exact Or.inl ⟨h_5, rfl, rfl⟩
theorem c_X7_item {l : Launch} {w : zE} (J : zJ w) {M : zM} {o L : Nat} {x ln i : Int32} {v : Int64} (hk : zk o = 7) (hL : M.1 (o + 129 + 1 + 2 * x.toNatClampNeg) 2 = nI L) (h16 : L ≤ 16) : zCi l w yX7_item cX7_item 7 (some .int) 3 [.ref (w.2.2 o), .int x, .int ln, .int i, .long v] M (fun r M2 => rowS M o x ln i 1 < 0 ∧ M2 = M ∧ r = rowS M o x ln i 1 ∨ ¬ rowS M o x ln i 1 < 0 ∧ r = 1 ∧ ∃ a, i = nI a ∧ a < 16 ∧ M2 = zy M (o + 129 + 1 + 2 * x.toNatClampNeg + 1) a (putF ln v)) := by
  refine zCi_of J zm_X7_item [some (.ref (w.2.2 o)), some (.int x), some (.int ln), some (.int i), some (.long v), none, none] (Nat.le_of_ble_eq_true rfl) rfl (fun g hg F X => ?_)
  subst hg
  refine z_aload_n F dX7_item_0 rfl ?_
  refine z_iload_n F dX7_item_1 rfl ?_
  refine z_iload_n F dX7_item_2 rfl ?_
  refine z_iload_n F dX7_item_3 rfl ?_
  refine z_iconst (v := 1) F dX7_item_4 (by decide) ?_
  refine z_callVi F (c_X7_rowFault J hk) zm_X7_rowFault zv_X7_rowFault ml_X7_229 (by with_reducible assumption) (by decide) rfl rfl rfl (Nat.le_of_ble_eq_true rfl) dX7_item_5 (by omega) (fun r_5 M_5 h_5 => ?_)
  obtain ⟨e_5, rfl⟩ := h_5
  replace e_5 := Eq.symm e_5
  subst e_5
  refine z_istore (lv' := [_, _, _, _, _, _, _]) F dX7_item_8 (by decide) rfl rfl ?_
  refine z_iload F dX7_item_10 rfl ?_
  refine z_if_ge (tgt := 18) F dX7_item_12 (by decide) (fun h_12 => ?_) (fun h_12 => ?_)
  · obtain ⟨r1, r2, r3, r4, r5, r6, r7, r8, r9⟩ := rowS_ok (nlt h_12)
    obtain ⟨a, k, rfl, e6, e7⟩ := rng_n hL h16 r5 r6 r7 r8
    have e8 : 1 = k := (nI_eq (a := 1) (by omega) (by omega)).mp e6
    refine z_aload_n F dX7_item_18 rfl ?_
    refine zg_X7_sheets F (by with_reducible assumption) fl_X7_35 dX7_item_19 (fun hk_19 => ?_)
    refine z_iload_n F dX7_item_22 rfl ?_
    refine z_aald15 F (by with_reducible assumption) (in4 (rowS_ok (nlt h_12)).1) dX7_item_23 (fun hk_23 => ?_)
    refine z_iload_n F dX7_item_24 rfl ?_
    refine z_lload F dX7_item_25 rfl ?_
    refine z_callVv F (c_X2_put J (by with_reducible assumption) (by omega)) zm_X2_put zv_X2_put ml_X7_243 (by with_reducible assumption) (by decide) rfl rfl rfl (Nat.le_of_ble_eq_true rfl) dX7_item_27 (by omega) (fun M_27 h_27 => ?_)
    replace h_27 := Eq.symm h_27
    subst h_27
    refine z_iconst (v := 1) F dX7_item_30 (by decide) ?_
    refine z_iret F X dX7_item_31 ?_
    rw [r4]
    exact Or.inr ⟨nlt h_12, rfl, a, rfl, by omega, rfl⟩
  · refine z_iload F dX7_item_15 rfl ?_
    refine z_iret F X dX7_item_17 ?_
    exact Or.inl ⟨h_12, rfl, rfl⟩
section ZC
variable {w : zE} {g : zG} {own : String} {cc : ByteArray} {nL D pc : Nat} {lv : List (Option Value)} {M : zM}
theorem z_copy14 {i j idx : Nat} {sp dp n : Int32} (F : zF w g own cc nL D) (hi : zk i = 14) (hj : zk j = 14) (h1 : ¬ sp < 0) (h2 : ¬ dp < 0) (h3 : ¬ n < 0) (h4 : sp.toNatClampNeg + n.toNatClampNeg ≤ zn i) (h5 : dp.toNatClampNeg + n.toNatClampNeg ≤ zn j) (hl : Cond.methodLink own idx arraycopyName ∈ zTb) (hd : decode cc pc = .ok (.invokestatic idx, 3)) (hD : 1 ≤ D) (k : ZW w g nL (pc + 3) lv [] (zya M j (va_cpy (M.2 i) (M.2 j) sp.toNatClampNeg dp.toNatClampNeg n.toNatClampNeg))) : ZW w g nL pc lv [.int n, .int dp, .ref (w.2.2 j), .int sp, .ref (w.2.2 i)] M := fun H locs ls hl1 hP hS => by
  have f1 := F.2.2.2.2.2.2.2.2.2.1
  have f2 := F.2.2.2.2.2.2.2.2.2.2.1
  have l1 := zk_i hi (by decide)
  have l2 := zk_i hj (by decide)
  have hei : zc w M i = .inl (w.2.1 2, zn i, .inr (.inl (M.2 i))) := zc_eq hi
  have hej : zc w M j = .inl (w.2.1 2, zn j, .inr (.inl (M.2 j))) := zc_eq hj
  refine va_copyl F.1 F.2.1 (by rw [F.2.2.1]; exact hl1.1.symm) F.2.2.2.1 (F.2.2.2.2.1 _ hl) (F.2.2.2.2.1 _ ac_na) (F.2.2.2.2.1 _ ac_st) (F.2.2.2.2.1 _ ac_in) F.2.2.2.2.2.2.1 hP.P (zP.D F.2.2.2.2.2.2.2.1 F.2.2.2.2.2.2.2.2.1) hS i j 2 2 (by rw [zL0_at l1, hei]) (by rw [zL0_at l2, hej]) rfl rfl rfl h1 h2 h3 h4 h5 (fun _ _ => rfl) (by omega) (show 0 + (5 + 2 + 11) ≤ _ by omega) hd (fun H1 locs1 hP1 _ hS1 => k H1 locs1 ls hl1 (zP.put l2 hP1 ?_ zya_other) hS1)
  rw [zc_eq hj]
  show Sum.inl (w.2.1 2, zn j, Sum.inr (Sum.inl (va_up M.2 j _ j))) = _
  rw [va_up_self]
end ZC
theorem c_X7_copy {l : Launch} {w : zE} (J : zJ w) {M : zM} {o L1 L2 : Nat} {x i y j n : Int32} (hk : zk o = 7) (hL : M.1 (o + 129 + 1 + 2 * x.toNatClampNeg) 2 = nI L1) (h16 : L1 ≤ 16) (hL2 : M.1 (o + 129 + 1 + 2 * y.toNatClampNeg) 2 = nI L2) (h162 : L2 ≤ 16) : zCi l w yX7_copy cX7_copy 8 (some .int) 3 [.ref (w.2.2 o), .int x, .int i, .int y, .int j, .int n] M (fun r M2 => (((x < 0 ∨ 3 < x) ∨ (y < 0 ∨ 3 < y)) ∧ r = -1 ∧ M2 = M) ∨ (¬ ((x < 0 ∨ 3 < x) ∨ (y < 0 ∨ 3 < y)) ∧
     (((M.1 (o + 129 + 1 + 2 * x.toNatClampNeg) 0 = 0 ∨ M.1 (o + 129 + 1 + 2 * y.toNatClampNeg) 0 = 0) ∧ r = -11 ∧ M2 = M) ∨
      (¬ (M.1 (o + 129 + 1 + 2 * x.toNatClampNeg) 0 = 0 ∨ M.1 (o + 129 + 1 + 2 * y.toNatClampNeg) 0 = 0) ∧
       ((¬ M.1 (o + 129 + 1 + 2 * x.toNatClampNeg) 1 = M.1 (o + 129 + 1 + 2 * y.toNatClampNeg) 1 ∧ r = -12 ∧ M2 = M) ∨
        (M.1 (o + 129 + 1 + 2 * x.toNatClampNeg) 1 = M.1 (o + 129 + 1 + 2 * y.toNatClampNeg) 1 ∧
         ((¬ ((0 ≤ i ∧ 0 ≤ n ∧ n ≤ M.1 (o + 129 + 1 + 2 * x.toNatClampNeg) 2 ∧ i ≤ M.1 (o + 129 + 1 + 2 * x.toNatClampNeg) 2 - n) ∧ (0 ≤ j ∧ 0 ≤ n ∧ n ≤ M.1 (o + 129 + 1 + 2 * y.toNatClampNeg) 2 ∧ j ≤ M.1 (o + 129 + 1 + 2 * y.toNatClampNeg) 2 - n)) ∧ r = -13 ∧ M2 = M) ∨
          (((0 ≤ i ∧ 0 ≤ n ∧ n ≤ M.1 (o + 129 + 1 + 2 * x.toNatClampNeg) 2 ∧ i ≤ M.1 (o + 129 + 1 + 2 * x.toNatClampNeg) 2 - n) ∧ (0 ≤ j ∧ 0 ≤ n ∧ n ≤ M.1 (o + 129 + 1 + 2 * y.toNatClampNeg) 2 ∧ j ≤ M.1 (o + 129 + 1 + 2 * y.toNatClampNeg) 2 - n)) ∧ r = n ∧ ∃ a b k, i = nI a ∧ j = nI b ∧ n = nI k ∧ a + k ≤ 16 ∧ b + k ≤ 16 ∧ M2 = zya M (o + 129 + 1 + 2 * y.toNatClampNeg + 1) (va_cpy (M.2 (o + 129 + 1 + 2 * x.toNatClampNeg + 1)) (M.2 (o + 129 + 1 + 2 * y.toNatClampNeg + 1)) a b k))))))))) := by
  refine zCi_of J zm_X7_copy [some (.ref (w.2.2 o)), some (.int x), some (.int i), some (.int y), some (.int j), some (.int n), none, none] (Nat.le_of_ble_eq_true rfl) rfl (fun g hg F X => ?_)
  subst hg
  refine z_iload_n F dX7_copy_0 rfl ?_
  refine z_iconst (v := 3) F dX7_copy_1 (by decide) ?_
  refine z_callSi F (c_X7_isNot J) zm_X7_isNot zst_X7_isNot ml_X7_40 rfl rfl (Nat.le_of_ble_eq_true rfl) dX7_copy_2 (by omega) (fun r_2 M_2 h_2 => ?_)
  obtain ⟨e_2, rfl⟩ := h_2
  replace e_2 := Eq.symm e_2
  subst e_2
  refine z_if_ne (tgt := 16) F dX7_copy_5 (by decide) (fun h_5 => ?_) (fun h_5 => ?_)
  · replace h_5 := bI_1.mp h_5
    refine z_iconst (v := (-1)) F dX7_copy_16 (by decide) ?_
    refine z_iret F X dX7_copy_17 ?_
    refine Or.inl ⟨?_, rfl, rfl⟩
    first | exact Or.inl h_5 | exact Or.inr h_13
  · replace h_5 := bI_0.mp h_5
    refine z_iload_n F dX7_copy_8 rfl ?_
    refine z_iconst (v := 3) F dX7_copy_9 (by decide) ?_
    refine z_callSi F (c_X7_isNot J) zm_X7_isNot zst_X7_isNot ml_X7_40 rfl rfl (Nat.le_of_ble_eq_true rfl) dX7_copy_10 (by omega) (fun r_10 M_10 h_10 => ?_)
    obtain ⟨e_10, rfl⟩ := h_10
    replace e_10 := Eq.symm e_10
    subst e_10
    refine z_if_eq (tgt := 18) F dX7_copy_13 (by decide) (fun h_13 => ?_) (fun h_13 => ?_)
    · replace h_13 := bI_0.mp h_13
      refine z_aload_n F dX7_copy_18 rfl ?_
      refine zg_X7_sheets F (by with_reducible assumption) fl_X7_35 dX7_copy_19 (fun hk_19 => ?_)
      refine z_iload_n F dX7_copy_22 rfl ?_
      refine z_aald15 F (by with_reducible assumption) (in4 h_5) dX7_copy_23 (fun hk_23 => ?_)
      refine z_astore (lv' := [_, _, _, _, _, _, _, _]) F dX7_copy_24 (by decide) rfl rfl ?_
      refine z_aload_n F dX7_copy_26 rfl ?_
      refine zg_X7_sheets F (by with_reducible assumption) fl_X7_35 dX7_copy_27 (fun hk_27 => ?_)
      refine z_iload_n F dX7_copy_30 rfl ?_
      refine z_aald15 F (by with_reducible assumption) (in4 h_13) dX7_copy_31 (fun hk_31 => ?_)
      refine z_astore (lv' := [_, _, _, _, _, _, _, _]) F dX7_copy_32 (by decide) rfl rfl ?_
      refine z_aload F dX7_copy_34 rfl ?_
      refine zg_X2_isThere F (by with_reducible assumption) fl_X7_255 dX7_copy_36 ?_
      refine z_if_eq (tgt := 50) F dX7_copy_39 (by decide) (fun h_39 => ?_) (fun h_39 => ?_)
      · refine z_bipush (v := (-11)) F dX7_copy_50 (by decide) ?_
        refine z_iret F X dX7_copy_52 ?_
        refine Or.inr ⟨fun q => q.elim h_5 h_13, Or.inl ⟨?_, rfl, rfl⟩⟩
        first | exact Or.inl h_39 | exact Or.inr h_47
      · refine z_aload F dX7_copy_42 rfl ?_
        refine zg_X2_isThere F (by with_reducible assumption) fl_X7_255 dX7_copy_44 ?_
        refine z_if_ne (tgt := 53) F dX7_copy_47 (by decide) (fun h_47 => ?_) (fun h_47 => ?_)
        · refine z_aload F dX7_copy_53 rfl ?_
          refine zg_X2_lane F (by with_reducible assumption) fl_X7_259 dX7_copy_55 ?_
          refine z_aload F dX7_copy_58 rfl ?_
          refine zg_X2_lane F (by with_reducible assumption) fl_X7_259 dX7_copy_60 ?_
          refine z_ic_eq (tgt := 69) F dX7_copy_63 (by decide) (fun h_63 => ?_) (fun h_63 => ?_)
          · refine z_aload F dX7_copy_69 rfl ?_
            refine z_iload_n F dX7_copy_71 rfl ?_
            refine z_iload F dX7_copy_72 rfl ?_
            refine z_callVi F (c_X2_hasRange J (by with_reducible assumption)) zm_X2_hasRange zv_X2_hasRange ml_X7_262 (by with_reducible assumption) (by decide) rfl rfl rfl (Nat.le_of_ble_eq_true rfl) dX7_copy_74 (by omega) (fun r_74 M_74 h_74 => ?_)
            obtain ⟨e_74, rfl⟩ := h_74
            replace e_74 := Eq.symm e_74
            subst e_74
            refine z_if_eq (tgt := 92) F dX7_copy_77 (by decide) (fun h_77 => ?_) (fun h_77 => ?_)
            · replace h_77 := bI_0.mp h_77
              refine z_bipush (v := (-13)) F dX7_copy_92 (by decide) ?_
              refine z_iret F X dX7_copy_94 ?_
              refine Or.inr ⟨fun q => q.elim h_5 h_13, Or.inr ⟨fun q => q.elim h_39 h_47, Or.inr ⟨h_63, Or.inl ⟨fun q => ?_, rfl, rfl⟩⟩⟩⟩
              first | exact h_77 q.1 | exact h_89 q.2
            · replace h_77 := bI_1.mp h_77
              refine z_aload F dX7_copy_80 rfl ?_
              refine z_iload F dX7_copy_82 rfl ?_
              refine z_iload F dX7_copy_84 rfl ?_
              refine z_callVi F (c_X2_hasRange J (by with_reducible assumption)) zm_X2_hasRange zv_X2_hasRange ml_X7_262 (by with_reducible assumption) (by decide) rfl rfl rfl (Nat.le_of_ble_eq_true rfl) dX7_copy_86 (by omega) (fun r_86 M_86 h_86 => ?_)
              obtain ⟨e_86, rfl⟩ := h_86
              replace e_86 := Eq.symm e_86
              subst e_86
              refine z_if_ne (tgt := 95) F dX7_copy_89 (by decide) (fun h_89 => ?_) (fun h_89 => ?_)
              · replace h_89 := bI_1.mp h_89
                refine z_aload F dX7_copy_95 rfl ?_
                refine zg_X2_items F (by with_reducible assumption) fl_X7_232 dX7_copy_97 (fun hk_97 => ?_)
                refine z_iload_n F dX7_copy_100 rfl ?_
                refine z_aload F dX7_copy_101 rfl ?_
                refine zg_X2_items F (by with_reducible assumption) fl_X7_232 dX7_copy_103 (fun hk_103 => ?_)
                refine z_iload F dX7_copy_106 rfl ?_
                refine z_iload F dX7_copy_108 rfl ?_
                obtain ⟨a, k, rfl, rfl, e7⟩ := rng_n hL h16 h_77.1 h_77.2.1 h_77.2.2.1 h_77.2.2.2
                obtain ⟨b, k2, rfl, e6, e72⟩ := rng_n hL2 h162 h_89.1 h_89.2.1 h_89.2.2.1 h_89.2.2.2
                have hkk : k < 2 ^ 31 := by omega
                have e8 : k = k2 := (nI_eq hkk (by omega)).mp e6
                have z1 := zn_sheet _ (zk_i hk_23 (by decide)) hk_23
                have z2 := zn_sheet _ (zk_i hk_31 (by decide)) hk_31
                have c1 : (nI a).toNatClampNeg = a := nI_clamp (by omega)
                have c2 : (nI b).toNatClampNeg = b := nI_clamp (by omega)
                have c3 : (nI k).toNatClampNeg = k := nI_clamp (by omega)
                refine z_copy14 F hk_97 hk_103 (nI_pos (by omega)) (nI_pos (by omega)) (nI_pos (by omega)) (by rw [c1, c3, z1]; omega) (by rw [c2, c3, z2]; omega) ac_X7_265 dX7_copy_110 (by omega) ?_
                rw [c1, c2, c3]
                refine z_iload F dX7_copy_113 rfl ?_
                refine z_iret F X dX7_copy_115 ?_
                exact Or.inr ⟨fun q => q.elim h_5 h_13, Or.inr ⟨fun q => q.elim h_39 h_47, Or.inr ⟨h_63, Or.inr ⟨⟨h_77, h_89⟩, rfl, a, b, k, rfl, rfl, rfl, by omega, by omega, rfl⟩⟩⟩⟩
              · replace h_89 := bI_0.mp h_89
                refine z_bipush (v := (-13)) F dX7_copy_92 (by decide) ?_
                refine z_iret F X dX7_copy_94 ?_
                refine Or.inr ⟨fun q => q.elim h_5 h_13, Or.inr ⟨fun q => q.elim h_39 h_47, Or.inr ⟨h_63, Or.inl ⟨fun q => ?_, rfl, rfl⟩⟩⟩⟩
                first | exact h_77 q.1 | exact h_89 q.2
          · refine z_bipush (v := (-12)) F dX7_copy_66 (by decide) ?_
            refine z_iret F X dX7_copy_68 ?_
            exact Or.inr ⟨fun q => q.elim h_5 h_13, Or.inr ⟨fun q => q.elim h_39 h_47, Or.inl ⟨h_63, rfl, rfl⟩⟩⟩
        · refine z_bipush (v := (-11)) F dX7_copy_50 (by decide) ?_
          refine z_iret F X dX7_copy_52 ?_
          refine Or.inr ⟨fun q => q.elim h_5 h_13, Or.inl ⟨?_, rfl, rfl⟩⟩
          first | exact Or.inl h_39 | exact Or.inr h_47
    · replace h_13 := bI_1.mp h_13
      refine z_iconst (v := (-1)) F dX7_copy_16 (by decide) ?_
      refine z_iret F X dX7_copy_17 ?_
      refine Or.inl ⟨?_, rfl, rfl⟩
      first | exact Or.inl h_5 | exact Or.inr h_13
