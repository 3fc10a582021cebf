/-! no such sheet -/
theorem rowS_bad {M : zM} {o : Nat} {x ln i n : Int32} (h : x < 0 ∨ 3 < x) : rowS M o x ln i n = -1 := if_pos (Or.inl h)
theorem b7_seen {l : Launch} {w : zE} (J : zJ w) {M : zM} {x ln i n : Int32} (hx : x < 0 ∨ 3 < x) : zCi l w yX7_seen cX7_seen 9 (some .int) 3 [.ref (w.2.2 0), .int x, .int ln, .int i, .int n] M (fun r M2 => M2 = M ∧ r = -1) := by
  have hk : zk 0 = 7 := by decide
  refine zCi_of J zm_X7_seen [some (.ref (w.2.2 0)), some (.int x), some (.int ln), some (.int i), some (.int n), none, none, none, none] (Nat.le_of_ble_eq_true rfl) rfl (fun g hg F X => ?_)
  subst hg
  refine z_iload F dX7_seen_0 rfl ?_
  refine z_iconst (v := 1) F dX7_seen_2 (by decide) ?_
  refine z_ic_lt (tgt := 13) F dX7_seen_3 (by decide) (fun h_3 => ?_) (fun h_3 => ?_)
  · refine z_iconst (v := (-1)) F dX7_seen_13 (by decide) ?_
    refine z_iret F X dX7_seen_14 ?_
    exact ⟨rfl, rfl⟩
  · refine z_iload F dX7_seen_6 rfl ?_
    refine z_bipush (v := 8) F dX7_seen_8 (by decide) ?_
    refine z_ic_le (tgt := 15) F dX7_seen_10 (by decide) (fun h_10 => ?_) (fun h_10 => ?_)
    · refine z_aload_n F dX7_seen_15 rfl ?_
      refine z_iload_n F dX7_seen_16 rfl ?_
      refine z_iload_n F dX7_seen_17 rfl ?_
      refine z_iload_n F dX7_seen_18 rfl ?_
      refine z_iconst (v := 2) F dX7_seen_19 (by decide) ?_
      refine z_iload F dX7_seen_20 rfl ?_
      refine z_imul F dX7_seen_22 ?_
      refine z_callVi F (c_X7_rowFault J hk) zm_X7_rowFault zv_X7_rowFault ml_X7_229 (by with_reducible assumption) (by decide) rfl rfl rfl (Nat.le_of_ble_eq_true rfl) dX7_seen_23 (by omega) (fun r_23 M_23 h_23 => ?_)
      obtain ⟨e_23, rfl⟩ := h_23
      replace e_23 := Eq.symm e_23
      subst e_23
      refine z_istore (lv' := [_, _, _, _, _, _, _, _, _]) F dX7_seen_26 (by decide) rfl rfl ?_
      refine z_iload F dX7_seen_28 rfl ?_
      refine z_if_ge (tgt := 36) F dX7_seen_30 (by decide) (fun h_30 => absurd h_30 (by rw [rowS_bad hx]; decide)) (fun h_30 => ?_)
      refine z_iload F dX7_seen_33 rfl ?_
      refine z_iret F X dX7_seen_35 ?_
      exact ⟨rfl, rowS_bad hx⟩
    · refine z_iconst (v := (-1)) F dX7_seen_13 (by decide) ?_
      refine z_iret F X dX7_seen_14 ?_
      exact ⟨rfl, rfl⟩
theorem b7_film {l : Launch} {w : zE} (J : zJ w) {M : zM} {x ln i : Int32} (hx : x < 0 ∨ 3 < x) : zCi l w yX7_film cX7_film 7 (some .int) 5 [.ref (w.2.2 0), .int x, .int ln, .int i] M (fun r M2 => M2 = M ∧ r = -1) := by
  have hk : zk 0 = 7 := by decide
  refine zCi_of J zm_X7_film [some (.ref (w.2.2 0)), some (.int x), some (.int ln), some (.int i), none, none, none] (Nat.le_of_ble_eq_true rfl) rfl (fun g hg F X => ?_)
  subst hg
  refine z_bipush (v := 12) F dX7_film_0 (by decide) ?_
  refine z_aload_n F dX7_film_2 rfl ?_
  refine zg_X7_now F (by with_reducible assumption) fl_X7_10 dX7_film_3 (fun hk_3 => ?_)
  refine zg_X6_trip F (by with_reducible assumption) fl_X7_83 dX7_film_6 (fun hk_6 => ?_)
  refine zg_X5_ahead F (by with_reducible assumption) fl_X7_130 dX7_film_9 ?_
  refine z_isub F dX7_film_12 ?_
  refine z_istore (lv' := [_, _, _, _, _, _, _]) F dX7_film_13 (by decide) rfl rfl ?_
  refine z_aload_n F dX7_film_15 rfl ?_
  refine z_iload_n F dX7_film_16 rfl ?_
  refine z_iload_n F dX7_film_17 rfl ?_
  refine z_iload_n F dX7_film_18 rfl ?_
  refine z_iload F dX7_film_19 rfl ?_
  refine z_callVi F (c_X7_rowFault J hk) zm_X7_rowFault zv_X7_rowFault ml_X7_229 (by with_reducible assumption) (by decide) rfl rfl rfl (Nat.le_of_ble_eq_true rfl) dX7_film_21 (by omega) (fun r_21 M_21 h_21 => ?_)
  obtain ⟨e_21, rfl⟩ := h_21
  replace e_21 := Eq.symm e_21
  subst e_21
  refine z_istore (lv' := [_, _, _, _, _, _, _]) F dX7_film_24 (by decide) rfl rfl ?_
  refine z_iload F dX7_film_26 rfl ?_
  refine z_if_ge (tgt := 34) F dX7_film_28 (by decide) (fun h_28 => absurd h_28 (by rw [rowS_bad hx]; decide)) (fun h_28 => ?_)
  refine z_iload F dX7_film_31 rfl ?_
  refine z_iret F X dX7_film_33 ?_
  exact ⟨rfl, rowS_bad hx⟩
theorem b7_deal {l : Launch} {w : zE} (J : zJ w) {M : zM} {x ln i : Int32} (hx : x < 0 ∨ 3 < x) : zCi l w yX7_deal cX7_deal 10 (some .int) 3 [.ref (w.2.2 0), .int x, .int ln, .int i] M (fun r M2 => M2 = M ∧ r = -1) := by
  have hk : zk 0 = 7 := by decide
  refine zCi_of J zm_X7_deal [some (.ref (w.2.2 0)), some (.int x), some (.int ln), some (.int i), none, none, none, none, none, none] (Nat.le_of_ble_eq_true rfl) rfl (fun g hg F X => ?_)
  subst hg
  refine z_aload_n F dX7_deal_0 rfl ?_
  refine zg_X7_now F (by with_reducible assumption) fl_X7_10 dX7_deal_1 (fun hk_1 => ?_)
  refine zg_X6_road F (by with_reducible assumption) fl_X7_44 dX7_deal_4 (fun hk_4 => ?_)
  refine zg_X1_personCount F (by with_reducible assumption) fl_X7_101 dX7_deal_7 ?_
  refine z_istore (lv' := [_, _, _, _, _, _, _, _, _, _]) F dX7_deal_10 (by decide) rfl rfl ?_
  refine z_aload_n F dX7_deal_12 rfl ?_
  refine z_iload_n F dX7_deal_13 rfl ?_
  refine z_iload_n F dX7_deal_14 rfl ?_
  refine z_iload_n F dX7_deal_15 rfl ?_
  refine z_iload F dX7_deal_16 rfl ?_
  refine z_callVi F (c_X7_rowFault J hk) zm_X7_rowFault zv_X7_rowFault ml_X7_229 (by with_reducible assumption) (by decide) rfl rfl rfl (Nat.le_of_ble_eq_true rfl) dX7_deal_18 (by omega) (fun r_18 M_18 h_18 => ?_)
  obtain ⟨e_18, rfl⟩ := h_18
  replace e_18 := Eq.symm e_18
  subst e_18
  refine z_istore (lv' := [_, _, _, _, _, _, _, _, _, _]) F dX7_deal_21 (by decide) rfl rfl ?_
  refine z_iload F dX7_deal_23 rfl ?_
  refine z_if_ge (tgt := 31) F dX7_deal_25 (by decide) (fun h_25 => absurd h_25 (by rw [rowS_bad hx]; decide)) (fun h_25 => ?_)
  refine z_iload F dX7_deal_28 rfl ?_
  refine z_iret F X dX7_deal_30 ?_
  exact ⟨rfl, rowS_bad hx⟩
theorem b7_item {l : Launch} {w : zE} (J : zJ w) {M : zM} {x ln i : Int32} {v : Int64} (hx : x < 0 ∨ 3 < x) : zCi l w yX7_item cX7_item 7 (some .int) 3 [.ref (w.2.2 0), .int x, .int ln, .int i, .long v] M (fun r M2 => M2 = M ∧ r = -1) := by
  have hk : zk 0 = 7 := by decide
  refine zCi_of J zm_X7_item [some (.ref (w.2.2 0)), some (.int x), some (.int ln), some (.int i), some (.long v), none, none] (Nat.le_of_ble_eq_true rfl) rfl (fun g hg F X => ?_)
  subst hg
  refine z_aload_n F dX7_item_0 rfl ?_
  refine z_iload_n F dX7_item_1 rfl ?_
  refine z_iload_n F dX7_item_2 rfl ?_
  refine z_iload_n F dX7_item_3 rfl ?_
  refine z_iconst (v := 1) F dX7_item_4 (by decide) ?_
  refine z_callVi F (c_X7_rowFault J hk) zm_X7_rowFault zv_X7_rowFault ml_X7_229 (by with_reducible assumption) (by decide) rfl rfl rfl (Nat.le_of_ble_eq_true rfl) dX7_item_5 (by omega) (fun r_5 M_5 h_5 => ?_)
  obtain ⟨e_5, rfl⟩ := h_5
  replace e_5 := Eq.symm e_5
  subst e_5
  refine z_istore (lv' := [_, _, _, _, _, _, _]) F dX7_item_8 (by decide) rfl rfl ?_
  refine z_iload F dX7_item_10 rfl ?_
  refine z_if_ge (tgt := 18) F dX7_item_12 (by decide) (fun h_12 => absurd h_12 (by rw [rowS_bad hx]; decide)) (fun h_12 => ?_)
  refine z_iload F dX7_item_15 rfl ?_
  refine z_iret F X dX7_item_17 ?_
  exact ⟨rfl, rowS_bad hx⟩
theorem b7_copy {l : Launch} {w : zE} (J : zJ w) {M : zM} {x i y j n : Int32} (hx : (x < 0 ∨ 3 < x) ∨ (y < 0 ∨ 3 < y)) : zCi l w yX7_copy cX7_copy 8 (some .int) 3 [.ref (w.2.2 0), .int x, .int i, .int y, .int j, .int n] M (fun r M2 => M2 = M ∧ r = -1) := by
  have hk : zk 0 = 7 := by decide
  refine zCi_of J zm_X7_copy [some (.ref (w.2.2 0)), some (.int x), some (.int i), some (.int y), some (.int j), some (.int n), none, none] (Nat.le_of_ble_eq_true rfl) rfl (fun g hg F X => ?_)
  subst hg
  refine z_iload_n F dX7_copy_0 rfl ?_
  refine z_iconst (v := 3) F dX7_copy_1 (by decide) ?_
  refine z_callSi F (c_X7_isNot J) zm_X7_isNot zst_X7_isNot ml_X7_40 rfl rfl (Nat.le_of_ble_eq_true rfl) dX7_copy_2 (by omega) (fun r_2 M_2 h_2 => ?_)
  obtain ⟨e_2, rfl⟩ := h_2
  replace e_2 := Eq.symm e_2
  subst e_2
  refine z_if_ne (tgt := 16) F dX7_copy_5 (by decide) (fun h_5 => ?_) (fun h_5 => ?_)
  · replace h_5 := bI_1.mp h_5
    refine z_iconst (v := (-1)) F dX7_copy_16 (by decide) ?_
    refine z_iret F X dX7_copy_17 ?_
    exact ⟨rfl, rfl⟩
  · replace h_5 := bI_0.mp h_5
    refine z_iload_n F dX7_copy_8 rfl ?_
    refine z_iconst (v := 3) F dX7_copy_9 (by decide) ?_
    refine z_callSi F (c_X7_isNot J) zm_X7_isNot zst_X7_isNot ml_X7_40 rfl rfl (Nat.le_of_ble_eq_true rfl) dX7_copy_10 (by omega) (fun r_10 M_10 h_10 => ?_)
    obtain ⟨e_10, rfl⟩ := h_10
    replace e_10 := Eq.symm e_10
    subst e_10
    refine z_if_eq (tgt := 18) F dX7_copy_13 (by decide) (fun h_13 => ?_) (fun h_13 => ?_)
    · replace h_13 := bI_0.mp h_13
      exact absurd hx (fun z => z.elim h_5 h_13)
    · replace h_13 := bI_1.mp h_13
      refine z_iconst (v := (-1)) F dX7_copy_16 (by decide) ?_
      refine z_iret F X dX7_copy_17 ?_
      exact ⟨rfl, rfl⟩
