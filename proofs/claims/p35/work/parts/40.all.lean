section
theorem c_X7_isNot {l : Launch} {w : zE} (J : zJ w) {M : zM} {v most : Int32} : zCi l w yX7_isNot cX7_isNot 2 (some .boolean) 0 [.int v, .int most] M (fun r M2 => M2 = M ∧ r = bI (v < 0 ∨ most < v)) := by
  refine zCi_of J zm_X7_isNot [some (.int v), some (.int most)] (Nat.le_of_ble_eq_true rfl) rfl (fun g hg F X => ?_)
  subst hg
  refine z_iload_n F dX7_isNot_0 rfl ?_
  refine z_if_lt (tgt := 9) F dX7_isNot_1 (by decide) (fun h_1 => ?_) (fun h_1 => ?_)
  · refine z_iconst (v := 1) F dX7_isNot_9 (by decide) ?_
    refine z_goto (tgt := 14) F dX7_isNot_10 (by decide) ?_
    refine z_zret F X dX7_isNot_14 (by decide) ?_
    refine ⟨rfl, ?_⟩
    first | exact bI_t (Or.inl h_1) | exact bI_t (Or.inr h_6) | exact bI_f (fun q => q.elim (nlt h_1) (nlt h_6))
  · refine z_iload_n F dX7_isNot_4 rfl ?_
    refine z_iload_n F dX7_isNot_5 rfl ?_
    refine z_ic_le (tgt := 13) F dX7_isNot_6 (by decide) (fun h_6 => ?_) (fun h_6 => ?_)
    · refine z_iconst (v := 0) F dX7_isNot_13 (by decide) ?_
      refine z_zret F X dX7_isNot_14 (by decide) ?_
      refine ⟨rfl, ?_⟩
      first | exact bI_t (Or.inl h_1) | exact bI_t (Or.inr h_6) | exact bI_f (fun q => q.elim (nlt h_1) (nlt h_6))
    · refine z_iconst (v := 1) F dX7_isNot_9 (by decide) ?_
      refine z_goto (tgt := 14) F dX7_isNot_10 (by decide) ?_
      refine z_zret F X dX7_isNot_14 (by decide) ?_
      refine ⟨rfl, ?_⟩
      first | exact bI_t (Or.inl h_1) | exact bI_t (Or.inr h_6) | exact bI_f (fun q => q.elim (nlt h_1) (nlt h_6))
theorem c_X7_isNoThingOrNone {l : Launch} {w : zE} (J : zJ w) {M : zM} {o : Nat} {x : Int32} (hk : zk o = 7) : zCi l w yX7_isNoThingOrNone cX7_isNoThingOrNone 2 (some .boolean) 1 [.ref (w.2.2 o), .int x] M (fun r M2 => M2 = M ∧ r = bI (¬ x = -4 ∧ ¬ (0 ≤ x ∧ x < M.1 (o + 1 + 1) 0))) := by
  refine zCi_of J zm_X7_isNoThingOrNone [some (.ref (w.2.2 o)), some (.int x)] (Nat.le_of_ble_eq_true rfl) rfl (fun g hg F X => ?_)
  subst hg
  refine z_iload_n F dX7_isNoThingOrNone_0 rfl ?_
  refine z_bipush (v := (-4)) F dX7_isNoThingOrNone_1 (by decide) ?_
  refine z_ic_eq (tgt := 24) F dX7_isNoThingOrNone_3 (by decide) (fun h_3 => ?_) (fun h_3 => ?_)
  · refine z_iconst (v := 0) F dX7_isNoThingOrNone_24 (by decide) ?_
    refine z_zret F X dX7_isNoThingOrNone_25 (by decide) ?_
    refine ⟨rfl, ?_⟩
    first | exact bI_f (fun q => q.1 h_3) | exact bI_t ⟨h_3, h_17⟩ | exact bI_f (fun q => q.2 h_17)
  · refine z_aload_n F dX7_isNoThingOrNone_6 rfl ?_
    refine zg_X7_now F (by with_reducible assumption) fl_X7_10 dX7_isNoThingOrNone_7 (fun hk_7 => ?_)
    refine zg_X6_road F (by with_reducible assumption) fl_X7_44 dX7_isNoThingOrNone_10 (fun hk_10 => ?_)
    refine z_iload_n F dX7_isNoThingOrNone_13 rfl ?_
    refine z_callVi F (c_X1_isThing J (by with_reducible assumption)) zm_X1_isThing zv_X1_isThing ml_X7_61 (by with_reducible assumption) (by decide) rfl rfl rfl (Nat.le_of_ble_eq_true rfl) dX7_isNoThingOrNone_14 (by omega) (fun r_14 M_14 h_14 => ?_)
    obtain ⟨e_14, rfl⟩ := h_14
    replace e_14 := Eq.symm e_14
    subst e_14
    refine z_if_ne (tgt := 24) F dX7_isNoThingOrNone_17 (by decide) (fun h_17 => ?_) (fun h_17 => ?_)
    · replace h_17 := bI_1.mp h_17
      refine z_iconst (v := 0) F dX7_isNoThingOrNone_24 (by decide) ?_
      refine z_zret F X dX7_isNoThingOrNone_25 (by decide) ?_
      refine ⟨rfl, ?_⟩
      first | exact bI_f (fun q => q.1 h_3) | exact bI_t ⟨h_3, h_17⟩ | exact bI_f (fun q => q.2 h_17)
    · replace h_17 := bI_0.mp h_17
      refine z_iconst (v := 1) F dX7_isNoThingOrNone_20 (by decide) ?_
      refine z_goto (tgt := 25) F dX7_isNoThingOrNone_21 (by decide) ?_
      refine z_zret F X dX7_isNoThingOrNone_25 (by decide) ?_
      refine ⟨rfl, ?_⟩
      first | exact bI_f (fun q => q.1 h_3) | exact bI_t ⟨h_3, h_17⟩ | exact bI_f (fun q => q.2 h_17)
theorem c_X7_isHad {l : Launch} {w : zE} (J : zJ w) {M : zM} {o np : Nat} {x : Int32} (hk : zk o = 7) (hnp : M.1 (o + 1 + 1) 1 = nI np) (hnp9 : np ≤ 9) : zCi l w yX7_isHad cX7_isHad 2 (some .boolean) 1 [.ref (w.2.2 o), .int x] M (fun r M2 => M2 = M ∧ r = bI (¬ whoF (M.1 (o + 1 + 15)) np x = -4)) := by
  refine zCi_of J zm_X7_isHad [some (.ref (w.2.2 o)), some (.int x)] (Nat.le_of_ble_eq_true rfl) rfl (fun g hg F X => ?_)
  subst hg
  refine z_aload_n F dX7_isHad_0 rfl ?_
  refine zg_X7_now F (by with_reducible assumption) fl_X7_10 dX7_isHad_1 (fun hk_1 => ?_)
  refine zg_X6_road F (by with_reducible assumption) fl_X7_44 dX7_isHad_4 (fun hk_4 => ?_)
  refine z_iload_n F dX7_isHad_7 rfl ?_
  refine z_aload_n F dX7_isHad_8 rfl ?_
  refine zg_X7_now F (by with_reducible assumption) fl_X7_10 dX7_isHad_9 (fun hk_9 => ?_)
  refine zg_X6_trip F (by with_reducible assumption) fl_X7_83 dX7_isHad_12 (fun hk_12 => ?_)
  refine z_callVi F (c_X1_whoHas J (by with_reducible assumption) (by with_reducible assumption) hnp hnp9) zm_X1_whoHas zv_X1_whoHas ml_X7_87 (by with_reducible assumption) (by decide) rfl rfl rfl (Nat.le_of_ble_eq_true rfl) dX7_isHad_15 (by omega) (fun r_15 M_15 h_15 => ?_)
  obtain ⟨e_15, rfl⟩ := h_15
  replace e_15 := Eq.symm e_15
  subst e_15
  refine z_bipush (v := (-4)) F dX7_isHad_18 (by decide) ?_
  refine z_ic_eq (tgt := 27) F dX7_isHad_20 (by decide) (fun h_20 => ?_) (fun h_20 => ?_)
  · refine z_iconst (v := 0) F dX7_isHad_27 (by decide) ?_
    refine z_zret F X dX7_isHad_28 (by decide) ?_
    refine ⟨rfl, ?_⟩
    first | exact bI_f (fun q => q h_20) | exact bI_t h_20
  · refine z_iconst (v := 1) F dX7_isHad_23 (by decide) ?_
    refine z_goto (tgt := 28) F dX7_isHad_24 (by decide) ?_
    refine z_zret F X dX7_isHad_28 (by decide) ?_
    refine ⟨rfl, ?_⟩
    first | exact bI_f (fun q => q h_20) | exact bI_t h_20
/-- a thing's answer and what it does -/
abbrev thgBad (a b c d : Int32) : Prop := (a < 0 ∨ 3 < a) ∨ (b < 0 ∨ 99 < b) ∨ (c < 0 ∨ 30 < c) ∨ (d < 0 ∨ 30 < d)
theorem c_X7_thing {l : Launch} {w : zE} (J : zJ w) {M : zM} {o nt : Nat} {a b c d : Int32} (hk : zk o = 7) (hnt : M.1 (o + 1 + 1) 0 = nI nt) (h10 : nt ≤ 10) : zCi l w yX7_thing cX7_thing 5 (some .int) 2 [.ref (w.2.2 o), .int a, .int b, .int c, .int d] M (fun r M2 => (thgBad a b c d ∧ r = -1 ∧ M2 = M) ∨ (¬ thgBad a b c d ∧ nt = 10 ∧ r = -3 ∧ M2 = M) ∨ (¬ thgBad a b c d ∧ nt < 10 ∧ r = nI nt ∧ M2 = zs (za (zs M (o + 1) 3 0) (o + 1 + 1 + 1) (setF (M.1 (o + 1 + 1 + 1)) nt a b c d)) (o + 1 + 1) 0 (nI (nt + 1)))) := by
  have e1 : (zs M (o + 1) 3 0).1 (o + 1 + 1) = M.1 (o + 1 + 1) := zs_off _ (by omega)
  have e2 : (zs M (o + 1) 3 0).1 (o + 1 + 1 + 1) = M.1 (o + 1 + 1 + 1) := zs_off _ (by omega)
  refine zCi_of J zm_X7_thing [some (.ref (w.2.2 o)), some (.int a), some (.int b), some (.int c), some (.int d)] (Nat.le_of_ble_eq_true rfl) rfl (fun g hg F X => ?_)
  subst hg
  refine z_iload_n F dX7_thing_0 rfl ?_
  refine z_iconst (v := 3) F dX7_thing_1 (by decide) ?_
  refine z_callSi F (c_X7_isNot J) zm_X7_isNot zst_X7_isNot ml_X7_40 rfl rfl (Nat.le_of_ble_eq_true rfl) dX7_thing_2 (by omega) (fun r_2 M_2 h_2 => ?_)
  obtain ⟨e_2, rfl⟩ := h_2
  replace e_2 := Eq.symm e_2
  subst e_2
  refine z_if_ne (tgt := 36) F dX7_thing_5 (by decide) (fun h_5 => ?_) (fun h_5 => ?_)
  · replace h_5 := bI_1.mp h_5
    refine z_iconst (v := (-1)) F dX7_thing_36 (by decide) ?_
    refine z_iret F X dX7_thing_37 ?_
    refine Or.inl ⟨?_, rfl, rfl⟩
    first | exact Or.inl h_5 | exact Or.inr (Or.inl h_14) | exact Or.inr (Or.inr (Or.inl h_23)) | exact Or.inr (Or.inr (Or.inr h_33))
  · replace h_5 := bI_0.mp h_5
    refine z_iload_n F dX7_thing_8 rfl ?_
    refine z_bipush (v := 99) F dX7_thing_9 (by decide) ?_
    refine z_callSi F (c_X7_isNot J) zm_X7_isNot zst_X7_isNot ml_X7_40 rfl rfl (Nat.le_of_ble_eq_true rfl) dX7_thing_11 (by omega) (fun r_11 M_11 h_11 => ?_)
    obtain ⟨e_11, rfl⟩ := h_11
    replace e_11 := Eq.symm e_11
    subst e_11
    refine z_if_ne (tgt := 36) F dX7_thing_14 (by decide) (fun h_14 => ?_) (fun h_14 => ?_)
    · replace h_14 := bI_1.mp h_14
      refine z_iconst (v := (-1)) F dX7_thing_36 (by decide) ?_
      refine z_iret F X dX7_thing_37 ?_
      refine Or.inl ⟨?_, rfl, rfl⟩
      first | exact Or.inl h_5 | exact Or.inr (Or.inl h_14) | exact Or.inr (Or.inr (Or.inl h_23)) | exact Or.inr (Or.inr (Or.inr h_33))
    · replace h_14 := bI_0.mp h_14
      refine z_iload_n F dX7_thing_17 rfl ?_
      refine z_bipush (v := 30) F dX7_thing_18 (by decide) ?_
      refine z_callSi F (c_X7_isNot J) zm_X7_isNot zst_X7_isNot ml_X7_40 rfl rfl (Nat.le_of_ble_eq_true rfl) dX7_thing_20 (by omega) (fun r_20 M_20 h_20 => ?_)
      obtain ⟨e_20, rfl⟩ := h_20
      replace e_20 := Eq.symm e_20
      subst e_20
      refine z_if_ne (tgt := 36) F dX7_thing_23 (by decide) (fun h_23 => ?_) (fun h_23 => ?_)
      · replace h_23 := bI_1.mp h_23
        refine z_iconst (v := (-1)) F dX7_thing_36 (by decide) ?_
        refine z_iret F X dX7_thing_37 ?_
        refine Or.inl ⟨?_, rfl, rfl⟩
        first | exact Or.inl h_5 | exact Or.inr (Or.inl h_14) | exact Or.inr (Or.inr (Or.inl h_23)) | exact Or.inr (Or.inr (Or.inr h_33))
      · replace h_23 := bI_0.mp h_23
        refine z_iload F dX7_thing_26 rfl ?_
        refine z_bipush (v := 30) F dX7_thing_28 (by decide) ?_
        refine z_callSi F (c_X7_isNot J) zm_X7_isNot zst_X7_isNot ml_X7_40 rfl rfl (Nat.le_of_ble_eq_true rfl) dX7_thing_30 (by omega) (fun r_30 M_30 h_30 => ?_)
        obtain ⟨e_30, rfl⟩ := h_30
        replace e_30 := Eq.symm e_30
        subst e_30
        refine z_if_eq (tgt := 38) F dX7_thing_33 (by decide) (fun h_33 => ?_) (fun h_33 => ?_)
        · replace h_33 := bI_0.mp h_33
          refine z_aload_n F dX7_thing_38 rfl ?_
          refine zg_X7_now F (by with_reducible assumption) fl_X7_10 dX7_thing_39 (fun hk_39 => ?_)
          refine zg_X6_road F (by with_reducible assumption) fl_X7_44 dX7_thing_42 (fun hk_42 => ?_)
          refine zg_X1_thingCount F (by with_reducible assumption) fl_X7_48 dX7_thing_45 ?_
          refine z_bipush (v := 10) F dX7_thing_48 (by decide) ?_
          refine z_ic_lt (tgt := 56) F dX7_thing_50 (by decide) (fun h_50 => ?_) (fun h_50 => ?_)
          · refine z_aload_n F dX7_thing_56 rfl ?_
            refine zg_X7_now F (by with_reducible assumption) fl_X7_10 dX7_thing_57 (fun hk_57 => ?_)
            refine z_iconst (v := 0) F dX7_thing_60 (by decide) ?_
            refine zp_X6_known F (by with_reducible assumption) fl_X7_54 dX7_thing_61 ?_
            refine z_aload_n F dX7_thing_64 rfl ?_
            refine zg_X7_now F (by with_reducible assumption) fl_X7_10 dX7_thing_65 (fun hk_65 => ?_)
            refine zg_X6_road F (by with_reducible assumption) fl_X7_44 dX7_thing_68 (fun hk_68 => ?_)
            refine z_iload_n F dX7_thing_71 rfl ?_
            refine z_iload_n F dX7_thing_72 rfl ?_
            refine z_iload_n F dX7_thing_73 rfl ?_
            refine z_iload F dX7_thing_74 rfl ?_
            refine z_callVi F (c_X1_addThing J (by with_reducible assumption) (n := nt) (by rw [e1]; exact hnt) (by rw [hnt] at h_50; exact (nI_ltI (b := 10) (by omega) (by decide)).mp h_50)) zm_X1_addThing zv_X1_addThing ml_X7_57 (by with_reducible assumption) (by decide) rfl rfl rfl (Nat.le_of_ble_eq_true rfl) dX7_thing_76 (by omega) (fun r_76 M_76 h_76 => ?_)
            obtain ⟨e_76, rfl⟩ := h_76
            replace e_76 := Eq.symm e_76
            subst e_76
            refine z_iret F X dX7_thing_79 ?_
            refine Or.inr (Or.inr ⟨fun q => q.elim h_5 (fun q => q.elim h_14 (fun q => q.elim h_23 h_33)), ?_, rfl, by rw [e2]⟩)
            rw [hnt] at h_50
            exact (nI_ltI (b := 10) (by omega) (by decide)).mp h_50
          · refine z_bipush (v := (-3)) F dX7_thing_53 (by decide) ?_
            refine z_iret F X dX7_thing_55 ?_
            refine Or.inr (Or.inl ⟨fun q => q.elim h_5 (fun q => q.elim h_14 (fun q => q.elim h_23 h_33)), ?_, rfl, rfl⟩)
            rw [hnt] at h_50
            have := (nI_leI (a := 10) (by decide) (by omega)).mp h_50
            omega
        · replace h_33 := bI_1.mp h_33
          refine z_iconst (v := (-1)) F dX7_thing_36 (by decide) ?_
          refine z_iret F X dX7_thing_37 ?_
          refine Or.inl ⟨?_, rfl, rfl⟩
          first | exact Or.inl h_5 | exact Or.inr (Or.inl h_14) | exact Or.inr (Or.inr (Or.inl h_23)) | exact Or.inr (Or.inr (Or.inr h_33))
def ofS (rb th T : zF1) (np : Nat) (x k : Int32) : Int32 := if 0 ≤ x ∧ x < rb 0 then (if k = 0 then th (4 * x.toNatClampNeg) else if k = 1 then th (4 * x.toNatClampNeg + 1) else if k = 2 then th (4 * x.toNatClampNeg + 2) else if k = 3 then th (4 * x.toNatClampNeg + 3) else if k = 4 then whoF T np x else -1) else -1
theorem c_X7_of {l : Launch} {w : zE} (J : zJ w) {M : zM} {o np : Nat} {x k : Int32} (hk : zk o = 7) (hnt : M.1 (o + 1 + 1) 0 ≤ 10) (hnp : M.1 (o + 1 + 1) 1 = nI np) (hnp9 : np ≤ 8) : zCi l w yX7_of cX7_of 4 (some .int) 1 [.ref (w.2.2 o), .int x, .int k] M (fun r M2 => M2 = M ∧ r = ofS (M.1 (o + 1 + 1)) (M.1 (o + 1 + 1 + 1)) (M.1 (o + 1 + 15)) np x k) := by
  refine zCi_of J zm_X7_of [some (.ref (w.2.2 o)), some (.int x), some (.int k), none] (Nat.le_of_ble_eq_true rfl) rfl (fun g hg F X => ?_)
  subst hg
  refine z_aload_n F dX7_of_0 rfl ?_
  refine zg_X7_now F (by with_reducible assumption) fl_X7_10 dX7_of_1 (fun hk_1 => ?_)
  refine zg_X6_road F (by with_reducible assumption) fl_X7_44 dX7_of_4 (fun hk_4 => ?_)
  refine z_iload_n F dX7_of_7 rfl ?_
  refine z_callVi F (c_X1_isThing J (by with_reducible assumption)) zm_X1_isThing zv_X1_isThing ml_X7_61 (by with_reducible assumption) (by decide) rfl rfl rfl (Nat.le_of_ble_eq_true rfl) dX7_of_8 (by omega) (fun r_8 M_8 h_8 => ?_)
  obtain ⟨e_8, rfl⟩ := h_8
  replace e_8 := Eq.symm e_8
  subst e_8
  refine z_if_ne (tgt := 16) F dX7_of_11 (by decide) (fun h_11 => ?_) (fun h_11 => ?_)
  · replace h_11 := bI_1.mp h_11
    refine z_aload_n F dX7_of_16 rfl ?_
    refine zg_X7_now F (by with_reducible assumption) fl_X7_10 dX7_of_17 (fun hk_17 => ?_)
    refine zg_X6_road F (by with_reducible assumption) fl_X7_44 dX7_of_20 (fun hk_20 => ?_)
    refine zg_X1_things F (by with_reducible assumption) fl_X7_65 dX7_of_23 (fun hk_23 => ?_)
    refine z_iload_n F dX7_of_26 rfl ?_
    refine z_aald16 F (by with_reducible assumption) (vpl 10 (by decide) ⟨h_11.1, Int32.lt_of_lt_of_le h_11.2 hnt⟩) dX7_of_27 (fun hk_27 hb_27 ho_27 => ?_)
    refine z_astore_n (lv' := [_, _, _, _]) F dX7_of_28 (by decide) rfl rfl ?_
    refine z_iload_n F dX7_of_29 rfl ?_
    refine z_tab5 F dX7_of_30 (tgt0 := 64) (tgt1 := 69) (tgt2 := 74) (tgt3 := 79) (tgt4 := 84) (dt := 103) (by decide) (by decide) (by decide) (by decide) (by decide) (by decide) (fun h_30 => ?_) (fun h_30 => ?_) (fun h_30 => ?_) (fun h_30 => ?_) (fun h_30 => ?_) (fun h_30_0 h_30_1 h_30_2 h_30_3 h_30_4 => ?_)
    · refine z_aload_n F dX7_of_64 rfl ?_
      refine zg_X4_kind F (by with_reducible assumption) fl_X7_69 dX7_of_65 ?_
      refine z_iret F X dX7_of_68 ?_
      refine ⟨rfl, ?_⟩
      rw [ofS, if_pos h_11]
      first
        | (rw [hb_27, ho_27]; subst h_30; rfl)
        | (subst h_30; rfl)
        | (rw [if_neg h_30_0, if_neg h_30_1, if_neg h_30_2, if_neg h_30_3, if_neg h_30_4])
    · refine z_aload_n F dX7_of_69 rfl ?_
      refine zg_X4_worth F (by with_reducible assumption) fl_X7_74 dX7_of_70 ?_
      refine z_iret F X dX7_of_73 ?_
      refine ⟨rfl, ?_⟩
      rw [ofS, if_pos h_11]
      first
        | (rw [hb_27, ho_27]; subst h_30; rfl)
        | (subst h_30; rfl)
        | (rw [if_neg h_30_0, if_neg h_30_1, if_neg h_30_2, if_neg h_30_3, if_neg h_30_4])
    · refine z_aload_n F dX7_of_74 rfl ?_
      refine zg_X4_load F (by with_reducible assumption) fl_X7_77 dX7_of_75 ?_
      refine z_iret F X dX7_of_78 ?_
      refine ⟨rfl, ?_⟩
      rw [ofS, if_pos h_11]
      first
        | (rw [hb_27, ho_27]; subst h_30; rfl)
        | (subst h_30; rfl)
        | (rw [if_neg h_30_0, if_neg h_30_1, if_neg h_30_2, if_neg h_30_3, if_neg h_30_4])
    · refine z_aload_n F dX7_of_79 rfl ?_
      refine zg_X4_care F (by with_reducible assumption) fl_X7_80 dX7_of_80 ?_
      refine z_iret F X dX7_of_83 ?_
      refine ⟨rfl, ?_⟩
      rw [ofS, if_pos h_11]
      first
        | (rw [hb_27, ho_27]; subst h_30; rfl)
        | (subst h_30; rfl)
        | (rw [if_neg h_30_0, if_neg h_30_1, if_neg h_30_2, if_neg h_30_3, if_neg h_30_4])
    · refine z_aload_n F dX7_of_84 rfl ?_
      refine zg_X7_now F (by with_reducible assumption) fl_X7_10 dX7_of_85 (fun hk_85 => ?_)
      refine zg_X6_road F (by with_reducible assumption) fl_X7_44 dX7_of_88 (fun hk_88 => ?_)
      refine z_iload_n F dX7_of_91 rfl ?_
      refine z_aload_n F dX7_of_92 rfl ?_
      refine zg_X7_now F (by with_reducible assumption) fl_X7_10 dX7_of_93 (fun hk_93 => ?_)
      refine zg_X6_trip F (by with_reducible assumption) fl_X7_83 dX7_of_96 (fun hk_96 => ?_)
      refine z_callVi F (c_X1_whoHas J (by with_reducible assumption) (by with_reducible assumption) (np := np) hnp (by omega)) zm_X1_whoHas zv_X1_whoHas ml_X7_87 (by with_reducible assumption) (by decide) rfl rfl rfl (Nat.le_of_ble_eq_true rfl) dX7_of_99 (by omega) (fun r_99 M_99 h_99 => ?_)
      obtain ⟨e_99, rfl⟩ := h_99
      replace e_99 := Eq.symm e_99
      subst e_99
      refine z_iret F X dX7_of_102 ?_
      refine ⟨rfl, ?_⟩
      rw [ofS, if_pos h_11]
      first
        | (rw [hb_27, ho_27]; subst h_30; rfl)
        | (subst h_30; rfl)
        | (rw [if_neg h_30_0, if_neg h_30_1, if_neg h_30_2, if_neg h_30_3, if_neg h_30_4])
    · refine z_iconst (v := (-1)) F dX7_of_103 (by decide) ?_
      refine z_iret F X dX7_of_104 ?_
      refine ⟨rfl, ?_⟩
      rw [ofS, if_pos h_11]
      first
        | (rw [hb_27, ho_27]; subst h_30; rfl)
        | (subst h_30; rfl)
        | (rw [if_neg h_30_0, if_neg h_30_1, if_neg h_30_2, if_neg h_30_3, if_neg h_30_4])
  · replace h_11 := bI_0.mp h_11
    refine z_iconst (v := (-1)) F dX7_of_14 (by decide) ?_
    refine z_iret F X dX7_of_15 ?_
    exact ⟨rfl, by rw [ofS, if_neg h_11]⟩
def fltS (rb th : zF1) (x n k : Int32) : Int32 := if (0 ≤ x ∧ x < rb 0) ∧ ¬ (n < 0 ∨ 99 < n) ∧ ¬ (k < 0 ∨ 1 < k) then feltF th x.toNatClampNeg k n else -1
theorem c_X7_felt {l : Launch} {w : zE} (J : zJ w) {M : zM} {o : Nat} {x n k : Int32} (hk : zk o = 7) (hnt : M.1 (o + 1 + 1) 0 ≤ 10) : zCi l w yX7_felt cX7_felt 4 (some .int) 1 [.ref (w.2.2 o), .int x, .int n, .int k] M (fun r M2 => M2 = M ∧ r = fltS (M.1 (o + 1 + 1)) (M.1 (o + 1 + 1 + 1)) x n k) := by
  refine zCi_of J zm_X7_felt [some (.ref (w.2.2 o)), some (.int x), some (.int n), some (.int k)] (Nat.le_of_ble_eq_true rfl) rfl (fun g hg F X => ?_)
  subst hg
  refine z_aload_n F dX7_felt_0 rfl ?_
  refine zg_X7_now F (by with_reducible assumption) fl_X7_10 dX7_felt_1 (fun hk_1 => ?_)
  refine zg_X6_road F (by with_reducible assumption) fl_X7_44 dX7_felt_4 (fun hk_4 => ?_)
  refine z_iload_n F dX7_felt_7 rfl ?_
  refine z_callVi F (c_X1_isThing J (by with_reducible assumption)) zm_X1_isThing zv_X1_isThing ml_X7_61 (by with_reducible assumption) (by decide) rfl rfl rfl (Nat.le_of_ble_eq_true rfl) dX7_felt_8 (by omega) (fun r_8 M_8 h_8 => ?_)
  obtain ⟨e_8, rfl⟩ := h_8
  replace e_8 := Eq.symm e_8
  subst e_8
  refine z_if_eq (tgt := 31) F dX7_felt_11 (by decide) (fun h_11 => ?_) (fun h_11 => ?_)
  · replace h_11 := bI_0.mp h_11
    refine z_iconst (v := (-1)) F dX7_felt_31 (by decide) ?_
    refine z_iret F X dX7_felt_32 ?_
    refine ⟨rfl, (if_neg ?_).symm⟩
    first | exact fun q => h_11 q.1 | exact fun q => q.2.1 h_20 | exact fun q => q.2.2 h_28
  · replace h_11 := bI_1.mp h_11
    refine z_iload_n F dX7_felt_14 rfl ?_
    refine z_bipush (v := 99) F dX7_felt_15 (by decide) ?_
    refine z_callSi F (c_X7_isNot J) zm_X7_isNot zst_X7_isNot ml_X7_40 rfl rfl (Nat.le_of_ble_eq_true rfl) dX7_felt_17 (by omega) (fun r_17 M_17 h_17 => ?_)
    obtain ⟨e_17, rfl⟩ := h_17
    replace e_17 := Eq.symm e_17
    subst e_17
    refine z_if_ne (tgt := 31) F dX7_felt_20 (by decide) (fun h_20 => ?_) (fun h_20 => ?_)
    · replace h_20 := bI_1.mp h_20
      refine z_iconst (v := (-1)) F dX7_felt_31 (by decide) ?_
      refine z_iret F X dX7_felt_32 ?_
      refine ⟨rfl, (if_neg ?_).symm⟩
      first | exact fun q => h_11 q.1 | exact fun q => q.2.1 h_20 | exact fun q => q.2.2 h_28
    · replace h_20 := bI_0.mp h_20
      refine z_iload_n F dX7_felt_23 rfl ?_
      refine z_iconst (v := 1) F dX7_felt_24 (by decide) ?_
      refine z_callSi F (c_X7_isNot J) zm_X7_isNot zst_X7_isNot ml_X7_40 rfl rfl (Nat.le_of_ble_eq_true rfl) dX7_felt_25 (by omega) (fun r_25 M_25 h_25 => ?_)
      obtain ⟨e_25, rfl⟩ := h_25
      replace e_25 := Eq.symm e_25
      subst e_25
      refine z_if_eq (tgt := 33) F dX7_felt_28 (by decide) (fun h_28 => ?_) (fun h_28 => ?_)
      · replace h_28 := bI_0.mp h_28
        refine z_aload_n F dX7_felt_33 rfl ?_
        refine zg_X7_now F (by with_reducible assumption) fl_X7_10 dX7_felt_34 (fun hk_34 => ?_)
        refine zg_X6_road F (by with_reducible assumption) fl_X7_44 dX7_felt_37 (fun hk_37 => ?_)
        refine zg_X1_things F (by with_reducible assumption) fl_X7_65 dX7_felt_40 (fun hk_40 => ?_)
        refine z_iload_n F dX7_felt_43 rfl ?_
        refine z_aald16 F (by with_reducible assumption) (vpl 10 (by decide) ⟨h_11.1, Int32.lt_of_lt_of_le h_11.2 hnt⟩) dX7_felt_44 (fun hk_44 hb_44 ho_44 => ?_)
        refine z_iload_n F dX7_felt_45 rfl ?_
        refine z_iload_n F dX7_felt_46 rfl ?_
        refine z_callVi F (c_X4_feltBy J (by with_reducible assumption)) zm_X4_feltBy zv_X4_feltBy ml_X7_91 (by with_reducible assumption) (by decide) rfl rfl rfl (Nat.le_of_ble_eq_true rfl) dX7_felt_47 (by omega) (fun r_47 M_47 h_47 => ?_)
        obtain ⟨e_47, rfl⟩ := h_47
        replace e_47 := Eq.symm e_47
        subst e_47
        refine z_iret F X dX7_felt_50 ?_
        rw [hb_44, ho_44]
        exact ⟨rfl, (if_pos ⟨h_11, h_20, h_28⟩).symm⟩
      · replace h_28 := bI_1.mp h_28
        refine z_iconst (v := (-1)) F dX7_felt_31 (by decide) ?_
        refine z_iret F X dX7_felt_32 ?_
        refine ⟨rfl, (if_neg ?_).symm⟩
        first | exact fun q => h_11 q.1 | exact fun q => q.2.1 h_20 | exact fun q => q.2.2 h_28
end
section
abbrev perBad (nt m x g : Int32) : Prop := (m < 0 ∨ 11 < m) ∨ (¬ x = -4 ∧ ¬ (0 ≤ x ∧ x < nt)) ∨ (g < 0 ∨ 20 < g)
abbrev perHad (T : zF1) (np : Nat) (x : Int32) : Prop := ¬ x = -4 ∧ ¬ whoF T np x = -4
theorem c_X7_person {l : Launch} {w : zE} (J : zJ w) {M : zM} {o np : Nat} {m x g2 : Int32} (hk : zk o = 7) (hnp : M.1 (o + 1 + 1) 1 = nI np) (h8 : np ≤ 8) : zCi l w yX7_person cX7_person 4 (some .int) 2 [.ref (w.2.2 o), .int m, .int x, .int g2] M (fun r M2 => (perBad (M.1 (o + 1 + 1) 0) m x g2 ∧ r = -1 ∧ M2 = M) ∨ (¬ perBad (M.1 (o + 1 + 1) 0) m x g2 ∧ perHad (M.1 (o + 1 + 15)) np x ∧ r = -2 ∧ M2 = M) ∨ (¬ perBad (M.1 (o + 1 + 1) 0) m x g2 ∧ ¬ perHad (M.1 (o + 1 + 15)) np x ∧ np = 8 ∧ r = -3 ∧ M2 = M) ∨ (¬ perBad (M.1 (o + 1 + 1) 0) m x g2 ∧ ¬ perHad (M.1 (o + 1 + 15)) np x ∧ np < 8 ∧ r = nI np ∧ M2 = zs (zs (zs (zs (zs M (o + 1) 3 0) (o + 1 + 1 + 12) (2 * np) m) (o + 1 + 1 + 12) (2 * np + 1) g2) (o + 1 + 15) (5 + np) x) (o + 1 + 1) 1 (nI (np + 1)))) := by
  have e1 : (zs M (o + 1) 3 0).1 (o + 1 + 1) = M.1 (o + 1 + 1) := zs_off _ (by omega)
  refine zCi_of J zm_X7_person [some (.ref (w.2.2 o)), some (.int m), some (.int x), some (.int g2)] (Nat.le_of_ble_eq_true rfl) rfl (fun g hg F X => ?_)
  subst hg
  refine z_iload_n F dX7_person_0 rfl ?_
  refine z_bipush (v := 11) F dX7_person_1 (by decide) ?_
  refine z_callSi F (c_X7_isNot J) zm_X7_isNot zst_X7_isNot ml_X7_40 rfl rfl (Nat.le_of_ble_eq_true rfl) dX7_person_3 (by omega) (fun r_3 M_3 h_3 => ?_)
  obtain ⟨e_3, rfl⟩ := h_3
  replace e_3 := Eq.symm e_3
  subst e_3
  refine z_if_ne (tgt := 26) F dX7_person_6 (by decide) (fun h_6 => ?_) (fun h_6 => ?_)
  · replace h_6 := bI_1.mp h_6
    refine z_iconst (v := (-1)) F dX7_person_26 (by decide) ?_
    refine z_iret F X dX7_person_27 ?_
    refine Or.inl ⟨?_, rfl, rfl⟩
    first | exact Or.inl h_6 | exact Or.inr (Or.inl h_14) | exact Or.inr (Or.inr h_23)
  · replace h_6 := bI_0.mp h_6
    refine z_aload_n F dX7_person_9 rfl ?_
    refine z_iload_n F dX7_person_10 rfl ?_
    refine z_callVi F (c_X7_isNoThingOrNone J hk) zm_X7_isNoThingOrNone zv_X7_isNoThingOrNone ml_X7_95 (by with_reducible assumption) (by decide) rfl rfl rfl (Nat.le_of_ble_eq_true rfl) dX7_person_11 (by omega) (fun r_11 M_11 h_11 => ?_)
    obtain ⟨e_11, rfl⟩ := h_11
    replace e_11 := Eq.symm e_11
    subst e_11
    refine z_if_ne (tgt := 26) F dX7_person_14 (by decide) (fun h_14 => ?_) (fun h_14 => ?_)
    · replace h_14 := bI_1.mp h_14
      refine z_iconst (v := (-1)) F dX7_person_26 (by decide) ?_
      refine z_iret F X dX7_person_27 ?_
      refine Or.inl ⟨?_, rfl, rfl⟩
      first | exact Or.inl h_6 | exact Or.inr (Or.inl h_14) | exact Or.inr (Or.inr h_23)
    · replace h_14 := bI_0.mp h_14
      refine z_iload_n F dX7_person_17 rfl ?_
      refine z_bipush (v := 20) F dX7_person_18 (by decide) ?_
      refine z_callSi F (c_X7_isNot J) zm_X7_isNot zst_X7_isNot ml_X7_40 rfl rfl (Nat.le_of_ble_eq_true rfl) dX7_person_20 (by omega) (fun r_20 M_20 h_20 => ?_)
      obtain ⟨e_20, rfl⟩ := h_20
      replace e_20 := Eq.symm e_20
      subst e_20
      refine z_if_eq (tgt := 28) F dX7_person_23 (by decide) (fun h_23 => ?_) (fun h_23 => ?_)
      · replace h_23 := bI_0.mp h_23
        refine z_iload_n F dX7_person_28 rfl ?_
        refine z_bipush (v := (-4)) F dX7_person_29 (by decide) ?_
        refine z_ic_eq (tgt := 45) F dX7_person_31 (by decide) (fun h_31 => ?_) (fun h_31 => ?_)
        · refine z_aload_n F dX7_person_45 rfl ?_
          refine zg_X7_now F (by with_reducible assumption) fl_X7_10 dX7_person_46 (fun hk_46 => ?_)
          refine zg_X6_road F (by with_reducible assumption) fl_X7_44 dX7_person_49 (fun hk_49 => ?_)
          refine zg_X1_personCount F (by with_reducible assumption) fl_X7_101 dX7_person_52 ?_
          refine z_bipush (v := 8) F dX7_person_55 (by decide) ?_
          refine z_ic_lt (tgt := 63) F dX7_person_57 (by decide) (fun h_57 => ?_) (fun h_57 => ?_)
          · refine z_aload_n F dX7_person_63 rfl ?_
            refine zg_X7_now F (by with_reducible assumption) fl_X7_10 dX7_person_64 (fun hk_64 => ?_)
            refine z_iconst (v := 0) F dX7_person_67 (by decide) ?_
            refine zp_X6_known F (by with_reducible assumption) fl_X7_54 dX7_person_68 ?_
            refine z_aload_n F dX7_person_71 rfl ?_
            refine zg_X7_now F (by with_reducible assumption) fl_X7_10 dX7_person_72 (fun hk_72 => ?_)
            refine zg_X6_road F (by with_reducible assumption) fl_X7_44 dX7_person_75 (fun hk_75 => ?_)
            refine z_iload_n F dX7_person_78 rfl ?_
            refine z_iload_n F dX7_person_79 rfl ?_
            refine z_iload_n F dX7_person_80 rfl ?_
            refine z_aload_n F dX7_person_81 rfl ?_
            refine zg_X7_now F (by with_reducible assumption) fl_X7_10 dX7_person_82 (fun hk_82 => ?_)
            refine zg_X6_trip F (by with_reducible assumption) fl_X7_83 dX7_person_85 (fun hk_85 => ?_)
            refine z_callVi F (c_X1_addPerson J (by with_reducible assumption) (by with_reducible assumption) (n := np) (by rw [e1]; exact hnp) (by omega)) zm_X1_addPerson zv_X1_addPerson ml_X7_104 (by with_reducible assumption) (by decide) rfl rfl rfl (Nat.le_of_ble_eq_true rfl) dX7_person_88 (by omega) (fun r_88 M_88 h_88 => ?_)
            obtain ⟨e_88, rfl⟩ := h_88
            replace e_88 := Eq.symm e_88
            subst e_88
            refine z_iret F X dX7_person_91 ?_
            refine Or.inr (Or.inr (Or.inr ⟨fun q => q.elim h_6 (fun q => q.elim h_14 h_23), ?_, ?_, rfl, rfl⟩))
            · first | exact fun q => q.1 h_31 | exact fun q => h_39 q.2
            · rw [hnp] at h_57
              exact (nI_ltI (b := 8) (by omega) (by decide)).mp h_57
          · refine z_bipush (v := (-3)) F dX7_person_60 (by decide) ?_
            refine z_iret F X dX7_person_62 ?_
            refine Or.inr (Or.inr (Or.inl ⟨fun q => q.elim h_6 (fun q => q.elim h_14 h_23), ?_, ?_, rfl, rfl⟩))
            · first | exact fun q => q.1 h_31 | exact fun q => h_39 q.2
            · rw [hnp] at h_57
              have := (nI_leI (a := 8) (by decide) (by omega)).mp h_57
              omega
        · refine z_aload_n F dX7_person_34 rfl ?_
          refine z_iload_n F dX7_person_35 rfl ?_
          refine z_callVi F (c_X7_isHad J hk hnp (by omega)) zm_X7_isHad zv_X7_isHad ml_X7_98 (by with_reducible assumption) (by decide) rfl rfl rfl (Nat.le_of_ble_eq_true rfl) dX7_person_36 (by omega) (fun r_36 M_36 h_36 => ?_)
          obtain ⟨e_36, rfl⟩ := h_36
          replace e_36 := Eq.symm e_36
          subst e_36
          refine z_if_eq (tgt := 45) F dX7_person_39 (by decide) (fun h_39 => ?_) (fun h_39 => ?_)
          · replace h_39 := bI_0.mp h_39
            refine z_aload_n F dX7_person_45 rfl ?_
            refine zg_X7_now F (by with_reducible assumption) fl_X7_10 dX7_person_46 (fun hk_46 => ?_)
            refine zg_X6_road F (by with_reducible assumption) fl_X7_44 dX7_person_49 (fun hk_49 => ?_)
            refine zg_X1_personCount F (by with_reducible assumption) fl_X7_101 dX7_person_52 ?_
            refine z_bipush (v := 8) F dX7_person_55 (by decide) ?_
            refine z_ic_lt (tgt := 63) F dX7_person_57 (by decide) (fun h_57 => ?_) (fun h_57 => ?_)
            · refine z_aload_n F dX7_person_63 rfl ?_
              refine zg_X7_now F (by with_reducible assumption) fl_X7_10 dX7_person_64 (fun hk_64 => ?_)
              refine z_iconst (v := 0) F dX7_person_67 (by decide) ?_
              refine zp_X6_known F (by with_reducible assumption) fl_X7_54 dX7_person_68 ?_
              refine z_aload_n F dX7_person_71 rfl ?_
              refine zg_X7_now F (by with_reducible assumption) fl_X7_10 dX7_person_72 (fun hk_72 => ?_)
              refine zg_X6_road F (by with_reducible assumption) fl_X7_44 dX7_person_75 (fun hk_75 => ?_)
              refine z_iload_n F dX7_person_78 rfl ?_
              refine z_iload_n F dX7_person_79 rfl ?_
              refine z_iload_n F dX7_person_80 rfl ?_
              refine z_aload_n F dX7_person_81 rfl ?_
              refine zg_X7_now F (by with_reducible assumption) fl_X7_10 dX7_person_82 (fun hk_82 => ?_)
              refine zg_X6_trip F (by with_reducible assumption) fl_X7_83 dX7_person_85 (fun hk_85 => ?_)
              refine z_callVi F (c_X1_addPerson J (by with_reducible assumption) (by with_reducible assumption) (n := np) (by rw [e1]; exact hnp) (by omega)) zm_X1_addPerson zv_X1_addPerson ml_X7_104 (by with_reducible assumption) (by decide) rfl rfl rfl (Nat.le_of_ble_eq_true rfl) dX7_person_88 (by omega) (fun r_88 M_88 h_88 => ?_)
              obtain ⟨e_88, rfl⟩ := h_88
              replace e_88 := Eq.symm e_88
              subst e_88
              refine z_iret F X dX7_person_91 ?_
              refine Or.inr (Or.inr (Or.inr ⟨fun q => q.elim h_6 (fun q => q.elim h_14 h_23), ?_, ?_, rfl, rfl⟩))
              · first | exact fun q => q.1 h_31 | exact fun q => h_39 q.2
              · rw [hnp] at h_57
                exact (nI_ltI (b := 8) (by omega) (by decide)).mp h_57
            · refine z_bipush (v := (-3)) F dX7_person_60 (by decide) ?_
              refine z_iret F X dX7_person_62 ?_
              refine Or.inr (Or.inr (Or.inl ⟨fun q => q.elim h_6 (fun q => q.elim h_14 h_23), ?_, ?_, rfl, rfl⟩))
              · first | exact fun q => q.1 h_31 | exact fun q => h_39 q.2
              · rw [hnp] at h_57
                have := (nI_leI (a := 8) (by decide) (by omega)).mp h_57
                omega
          · replace h_39 := bI_1.mp h_39
            refine z_bipush (v := (-2)) F dX7_person_42 (by decide) ?_
            refine z_iret F X dX7_person_44 ?_
            exact Or.inr (Or.inl ⟨fun q => q.elim h_6 (fun q => q.elim h_14 h_23), ⟨h_31, h_39⟩, rfl, rfl⟩)
      · replace h_23 := bI_1.mp h_23
        refine z_iconst (v := (-1)) F dX7_person_26 (by decide) ?_
        refine z_iret F X dX7_person_27 ?_
        refine Or.inl ⟨?_, rfl, rfl⟩
        first | exact Or.inl h_6 | exact Or.inr (Or.inl h_14) | exact Or.inr (Or.inr h_23)
def toldS (rb pe T : zF1) (p k : Int32) : Int32 := if 0 ≤ p ∧ p < rb 1 then (if k = 0 then pe (2 * p.toNatClampNeg) else if k = 1 then T (5 + p.toNatClampNeg) else if k = 2 then pe (2 * p.toNatClampNeg + 1) else -1) else -1
theorem c_X7_told {l : Launch} {w : zE} (J : zJ w) {M : zM} {o : Nat} {p k : Int32} (hk : zk o = 7) (h8 : M.1 (o + 1 + 1) 1 ≤ 8) : zCi l w yX7_told cX7_told 3 (some .int) 1 [.ref (w.2.2 o), .int p, .int k] M (fun r M2 => M2 = M ∧ r = toldS (M.1 (o + 1 + 1)) (M.1 (o + 1 + 1 + 12)) (M.1 (o + 1 + 15)) p k) := by
  refine zCi_of J zm_X7_told [some (.ref (w.2.2 o)), some (.int p), some (.int k)] (Nat.le_of_ble_eq_true rfl) rfl (fun g hg F X => ?_)
  subst hg
  refine z_aload_n F dX7_told_0 rfl ?_
  refine zg_X7_now F (by with_reducible assumption) fl_X7_10 dX7_told_1 (fun hk_1 => ?_)
  refine zg_X6_road F (by with_reducible assumption) fl_X7_44 dX7_told_4 (fun hk_4 => ?_)
  refine z_iload_n F dX7_told_7 rfl ?_
  refine z_callVi F (c_X1_isPerson J (by with_reducible assumption)) zm_X1_isPerson zv_X1_isPerson ml_X7_108 (by with_reducible assumption) (by decide) rfl rfl rfl (Nat.le_of_ble_eq_true rfl) dX7_told_8 (by omega) (fun r_8 M_8 h_8 => ?_)
  obtain ⟨e_8, rfl⟩ := h_8
  replace e_8 := Eq.symm e_8
  subst e_8
  refine z_if_ne (tgt := 16) F dX7_told_11 (by decide) (fun h_11 => ?_) (fun h_11 => ?_)
  · replace h_11 := bI_1.mp h_11
    refine z_iload_n F dX7_told_16 rfl ?_
    refine z_tab3 F dX7_told_17 (tgt0 := 44) (tgt1 := 57) (tgt2 := 70) (dt := 83) (by decide) (by decide) (by decide) (by decide) (fun h_17 => ?_) (fun h_17 => ?_) (fun h_17 => ?_) (fun h_17_0 h_17_1 h_17_2 => ?_)
    · refine z_aload_n F dX7_told_44 rfl ?_
      refine zg_X7_now F (by with_reducible assumption) fl_X7_10 dX7_told_45 (fun hk_45 => ?_)
      refine zg_X6_road F (by with_reducible assumption) fl_X7_44 dX7_told_48 (fun hk_48 => ?_)
      refine zg_X1_where F (by with_reducible assumption) fl_X7_111 dX7_told_51 (fun hk_51 => ?_)
      refine z_iload_n F dX7_told_54 rfl ?_
      refine z_iald12 F (by with_reducible assumption) (vpl 9 (by decide) ⟨h_11.1, Int32.lt_of_lt_of_le h_11.2 (Int32.le_trans h8 (by decide))⟩) dX7_told_55 ?_
      refine z_iret F X dX7_told_56 ?_
      refine ⟨rfl, ?_⟩
      rw [toldS, if_pos h_11]
      first
        | (subst h_17; rfl)
        | (rw [if_neg h_17_0, if_neg h_17_1, if_neg h_17_2])
    · refine z_aload_n F dX7_told_57 rfl ?_
      refine zg_X7_now F (by with_reducible assumption) fl_X7_10 dX7_told_58 (fun hk_58 => ?_)
      refine zg_X6_trip F (by with_reducible assumption) fl_X7_83 dX7_told_61 (fun hk_61 => ?_)
      refine zg_X5_theirs F (by with_reducible assumption) fl_X7_115 dX7_told_64 (fun hk_64 => ?_)
      refine z_iload_n F dX7_told_67 rfl ?_
      refine z_iald11 F (by with_reducible assumption) (vpl 9 (by decide) ⟨h_11.1, Int32.lt_of_lt_of_le h_11.2 (Int32.le_trans h8 (by decide))⟩) dX7_told_68 ?_
      refine z_iret F X dX7_told_69 ?_
      refine ⟨rfl, ?_⟩
      rw [toldS, if_pos h_11]
      first
        | (subst h_17; rfl)
        | (rw [if_neg h_17_0, if_neg h_17_1, if_neg h_17_2])
    · refine z_aload_n F dX7_told_70 rfl ?_
      refine zg_X7_now F (by with_reducible assumption) fl_X7_10 dX7_told_71 (fun hk_71 => ?_)
      refine zg_X6_road F (by with_reducible assumption) fl_X7_44 dX7_told_74 (fun hk_74 => ?_)
      refine zg_X1_margin F (by with_reducible assumption) fl_X7_120 dX7_told_77 (fun hk_77 => ?_)
      refine z_iload_n F dX7_told_80 rfl ?_
      refine z_iald13 F (by with_reducible assumption) (vpl 9 (by decide) ⟨h_11.1, Int32.lt_of_lt_of_le h_11.2 (Int32.le_trans h8 (by decide))⟩) dX7_told_81 ?_
      refine z_iret F X dX7_told_82 ?_
      refine ⟨rfl, ?_⟩
      rw [toldS, if_pos h_11]
      first
        | (subst h_17; rfl)
        | (rw [if_neg h_17_0, if_neg h_17_1, if_neg h_17_2])
    · refine z_iconst (v := (-1)) F dX7_told_83 (by decide) ?_
      refine z_iret F X dX7_told_84 ?_
      refine ⟨rfl, ?_⟩
      rw [toldS, if_pos h_11]
      first
        | (subst h_17; rfl)
        | (rw [if_neg h_17_0, if_neg h_17_1, if_neg h_17_2])
  · replace h_11 := bI_0.mp h_11
    refine z_iconst (v := (-1)) F dX7_told_14 (by decide) ?_
    refine z_iret F X dX7_told_15 ?_
    exact ⟨rfl, by rw [toldS, if_neg h_11]⟩
theorem c_X7_move {l : Launch} {w : zE} (J : zJ w) {M : zM} {o : Nat} {p m : Int32} (hk : zk o = 7) (h8 : M.1 (o + 1 + 1) 1 ≤ 8) : zCi l w yX7_move cX7_move 4 (some .int) 1 [.ref (w.2.2 o), .int p, .int m] M (fun r M2 => ((0 ≤ p ∧ p < M.1 (o + 1 + 1) 1) ∧ ¬ (m < 0 ∨ 11 < m) ∧ r = M.1 (o + 1 + 1 + 12) (2 * p.toNatClampNeg) ∧ M2 = zs M (o + 1 + 1 + 12) (2 * p.toNatClampNeg) m) ∨ (¬ ((0 ≤ p ∧ p < M.1 (o + 1 + 1) 1) ∧ ¬ (m < 0 ∨ 11 < m)) ∧ r = -1 ∧ M2 = M)) := by
  refine zCi_of J zm_X7_move [some (.ref (w.2.2 o)), some (.int p), some (.int m), none] (Nat.le_of_ble_eq_true rfl) rfl (fun g hg F X => ?_)
  subst hg
  refine z_aload_n F dX7_move_0 rfl ?_
  refine zg_X7_now F (by with_reducible assumption) fl_X7_10 dX7_move_1 (fun hk_1 => ?_)
  refine zg_X6_road F (by with_reducible assumption) fl_X7_44 dX7_move_4 (fun hk_4 => ?_)
  refine z_iload_n F dX7_move_7 rfl ?_
  refine z_callVi F (c_X1_isPerson J (by with_reducible assumption)) zm_X1_isPerson zv_X1_isPerson ml_X7_108 (by with_reducible assumption) (by decide) rfl rfl rfl (Nat.le_of_ble_eq_true rfl) dX7_move_8 (by omega) (fun r_8 M_8 h_8 => ?_)
  obtain ⟨e_8, rfl⟩ := h_8
  replace e_8 := Eq.symm e_8
  subst e_8
  refine z_if_eq (tgt := 23) F dX7_move_11 (by decide) (fun h_11 => ?_) (fun h_11 => ?_)
  · replace h_11 := bI_0.mp h_11
    refine z_iconst (v := (-1)) F dX7_move_23 (by decide) ?_
    refine z_iret F X dX7_move_24 ?_
    refine Or.inr ⟨?_, rfl, rfl⟩
    first | exact fun q => h_11 q.1 | exact fun q => q.2 h_20
  · replace h_11 := bI_1.mp h_11
    refine z_iload_n F dX7_move_14 rfl ?_
    refine z_bipush (v := 11) F dX7_move_15 (by decide) ?_
    refine z_callSi F (c_X7_isNot J) zm_X7_isNot zst_X7_isNot ml_X7_40 rfl rfl (Nat.le_of_ble_eq_true rfl) dX7_move_17 (by omega) (fun r_17 M_17 h_17 => ?_)
    obtain ⟨e_17, rfl⟩ := h_17
    replace e_17 := Eq.symm e_17
    subst e_17
    refine z_if_eq (tgt := 25) F dX7_move_20 (by decide) (fun h_20 => ?_) (fun h_20 => ?_)
    · replace h_20 := bI_0.mp h_20
      refine z_aload_n F dX7_move_25 rfl ?_
      refine zg_X7_now F (by with_reducible assumption) fl_X7_10 dX7_move_26 (fun hk_26 => ?_)
      refine zg_X6_road F (by with_reducible assumption) fl_X7_44 dX7_move_29 (fun hk_29 => ?_)
      refine zg_X1_where F (by with_reducible assumption) fl_X7_111 dX7_move_32 (fun hk_32 => ?_)
      refine z_iload_n F dX7_move_35 rfl ?_
      refine z_iald12 F (by with_reducible assumption) (vpl 9 (by decide) ⟨h_11.1, Int32.lt_of_lt_of_le h_11.2 (Int32.le_trans h8 (by decide))⟩) dX7_move_36 ?_
      refine z_istore_n (lv' := [_, _, _, _]) F dX7_move_37 (by decide) rfl rfl ?_
      refine z_aload_n F dX7_move_38 rfl ?_
      refine zg_X7_now F (by with_reducible assumption) fl_X7_10 dX7_move_39 (fun hk_39 => ?_)
      refine zg_X6_road F (by with_reducible assumption) fl_X7_44 dX7_move_42 (fun hk_42 => ?_)
      refine zg_X1_where F (by with_reducible assumption) fl_X7_111 dX7_move_45 (fun hk_45 => ?_)
      refine z_iload_n F dX7_move_48 rfl ?_
      refine z_iload_n F dX7_move_49 rfl ?_
      refine z_iast12 F (by with_reducible assumption) (vpl 9 (by decide) ⟨h_11.1, Int32.lt_of_lt_of_le h_11.2 (Int32.le_trans h8 (by decide))⟩) dX7_move_50 ?_
      refine z_iload_n F dX7_move_51 rfl ?_
      refine z_iret F X dX7_move_52 ?_
      exact Or.inl ⟨h_11, h_20, rfl, rfl⟩
    · replace h_20 := bI_1.mp h_20
      refine z_iconst (v := (-1)) F dX7_move_23 (by decide) ?_
      refine z_iret F X dX7_move_24 ?_
      refine Or.inr ⟨?_, rfl, rfl⟩
      first | exact fun q => h_11 q.1 | exact fun q => q.2 h_20
abbrev takBad (nt x : Int32) : Prop := ¬ x = -4 ∧ ¬ (0 ≤ x ∧ x < nt)
abbrev takHad (T : zF1) (np : Nat) (x : Int32) : Prop := ¬ x = -4 ∧ ¬ x = T 0 ∧ ¬ whoF T np x = -4
theorem c_X7_take {l : Launch} {w : zE} (J : zJ w) {M : zM} {o np : Nat} {x : Int32} (hk : zk o = 7) (hnp : M.1 (o + 1 + 1) 1 = nI np) (h8 : np ≤ 8) : zCi l w yX7_take cX7_take 3 (some .int) 2 [.ref (w.2.2 o), .int x] M (fun r M2 => (takBad (M.1 (o + 1 + 1) 0) x ∧ r = -1 ∧ M2 = M) ∨ (¬ takBad (M.1 (o + 1 + 1) 0) x ∧ takHad (M.1 (o + 1 + 15)) np x ∧ r = -2 ∧ M2 = M) ∨ (¬ takBad (M.1 (o + 1 + 1) 0) x ∧ ¬ takHad (M.1 (o + 1 + 15)) np x ∧ r = M.1 (o + 1 + 15) 0 ∧ M2 = zs (zs M (o + 1 + 15) 0 x) (o + 1 + 15) 1 0)) := by
  refine zCi_of J zm_X7_take [some (.ref (w.2.2 o)), some (.int x), none] (Nat.le_of_ble_eq_true rfl) rfl (fun g hg F X => ?_)
  subst hg
  refine z_aload_n F dX7_take_0 rfl ?_
  refine z_iload_n F dX7_take_1 rfl ?_
  refine z_callVi F (c_X7_isNoThingOrNone J hk) zm_X7_isNoThingOrNone zv_X7_isNoThingOrNone ml_X7_95 (by with_reducible assumption) (by decide) rfl rfl rfl (Nat.le_of_ble_eq_true rfl) dX7_take_2 (by omega) (fun r_2 M_2 h_2 => ?_)
  obtain ⟨e_2, rfl⟩ := h_2
  replace e_2 := Eq.symm e_2
  subst e_2
  refine z_if_eq (tgt := 10) F dX7_take_5 (by decide) (fun h_5 => ?_) (fun h_5 => ?_)
  · replace h_5 := bI_0.mp h_5
    refine z_aload_n F dX7_take_10 rfl ?_
    refine zg_X7_now F (by with_reducible assumption) fl_X7_10 dX7_take_11 (fun hk_11 => ?_)
    refine zg_X6_trip F (by with_reducible assumption) fl_X7_83 dX7_take_14 (fun hk_14 => ?_)
    refine zg_X5_his F (by with_reducible assumption) fl_X7_123 dX7_take_17 ?_
    refine z_istore_n (lv' := [_, _, _]) F dX7_take_20 (by decide) rfl rfl ?_
    refine z_iload_n F dX7_take_21 rfl ?_
    refine z_bipush (v := (-4)) F dX7_take_22 (by decide) ?_
    refine z_ic_eq (tgt := 43) F dX7_take_24 (by decide) (fun h_24 => ?_) (fun h_24 => ?_)
    · refine z_aload_n F dX7_take_43 rfl ?_
      refine zg_X7_now F (by with_reducible assumption) fl_X7_10 dX7_take_44 (fun hk_44 => ?_)
      refine zg_X6_trip F (by with_reducible assumption) fl_X7_83 dX7_take_47 (fun hk_47 => ?_)
      refine z_iload_n F dX7_take_50 rfl ?_
      refine z_callVv F (c_X5_hasNew J (by with_reducible assumption)) zm_X5_hasNew zv_X5_hasNew ml_X7_126 (by with_reducible assumption) (by decide) rfl rfl rfl (Nat.le_of_ble_eq_true rfl) dX7_take_51 (by omega) (fun M_51 h_51 => ?_)
      replace h_51 := Eq.symm h_51
      subst h_51
      refine z_iload_n F dX7_take_54 rfl ?_
      refine z_iret F X dX7_take_55 ?_
      refine Or.inr (Or.inr ⟨h_5, ?_, rfl, rfl⟩)
      first | exact fun q => q.1 h_24 | exact fun q => q.2.1 h_29 | exact fun q => h_37 q.2.2
    · refine z_iload_n F dX7_take_27 rfl ?_
      refine z_iload_n F dX7_take_28 rfl ?_
      refine z_ic_eq (tgt := 43) F dX7_take_29 (by decide) (fun h_29 => ?_) (fun h_29 => ?_)
      · refine z_aload_n F dX7_take_43 rfl ?_
        refine zg_X7_now F (by with_reducible assumption) fl_X7_10 dX7_take_44 (fun hk_44 => ?_)
        refine zg_X6_trip F (by with_reducible assumption) fl_X7_83 dX7_take_47 (fun hk_47 => ?_)
        refine z_iload_n F dX7_take_50 rfl ?_
        refine z_callVv F (c_X5_hasNew J (by with_reducible assumption)) zm_X5_hasNew zv_X5_hasNew ml_X7_126 (by with_reducible assumption) (by decide) rfl rfl rfl (Nat.le_of_ble_eq_true rfl) dX7_take_51 (by omega) (fun M_51 h_51 => ?_)
        replace h_51 := Eq.symm h_51
        subst h_51
        refine z_iload_n F dX7_take_54 rfl ?_
        refine z_iret F X dX7_take_55 ?_
        refine Or.inr (Or.inr ⟨h_5, ?_, rfl, rfl⟩)
        first | exact fun q => q.1 h_24 | exact fun q => q.2.1 h_29 | exact fun q => h_37 q.2.2
      · refine z_aload_n F dX7_take_32 rfl ?_
        refine z_iload_n F dX7_take_33 rfl ?_
        refine z_callVi F (c_X7_isHad J hk hnp (by omega)) zm_X7_isHad zv_X7_isHad ml_X7_98 (by with_reducible assumption) (by decide) rfl rfl rfl (Nat.le_of_ble_eq_true rfl) dX7_take_34 (by omega) (fun r_34 M_34 h_34 => ?_)
        obtain ⟨e_34, rfl⟩ := h_34
        replace e_34 := Eq.symm e_34
        subst e_34
        refine z_if_eq (tgt := 43) F dX7_take_37 (by decide) (fun h_37 => ?_) (fun h_37 => ?_)
        · replace h_37 := bI_0.mp h_37
          refine z_aload_n F dX7_take_43 rfl ?_
          refine zg_X7_now F (by with_reducible assumption) fl_X7_10 dX7_take_44 (fun hk_44 => ?_)
          refine zg_X6_trip F (by with_reducible assumption) fl_X7_83 dX7_take_47 (fun hk_47 => ?_)
          refine z_iload_n F dX7_take_50 rfl ?_
          refine z_callVv F (c_X5_hasNew J (by with_reducible assumption)) zm_X5_hasNew zv_X5_hasNew ml_X7_126 (by with_reducible assumption) (by decide) rfl rfl rfl (Nat.le_of_ble_eq_true rfl) dX7_take_51 (by omega) (fun M_51 h_51 => ?_)
          replace h_51 := Eq.symm h_51
          subst h_51
          refine z_iload_n F dX7_take_54 rfl ?_
          refine z_iret F X dX7_take_55 ?_
          refine Or.inr (Or.inr ⟨h_5, ?_, rfl, rfl⟩)
          first | exact fun q => q.1 h_24 | exact fun q => q.2.1 h_29 | exact fun q => h_37 q.2.2
        · replace h_37 := bI_1.mp h_37
          refine z_bipush (v := (-2)) F dX7_take_40 (by decide) ?_
          refine z_iret F X dX7_take_42 ?_
          exact Or.inr (Or.inl ⟨h_5, ⟨h_24, h_29, h_37⟩, rfl, rfl⟩)
  · replace h_5 := bI_1.mp h_5
    refine z_iconst (v := (-1)) F dX7_take_8 (by decide) ?_
    refine z_iret F X dX7_take_9 ?_
    exact Or.inl ⟨h_5, rfl, rfl⟩
def cntS (rb T : zF1) (kn k : Int32) : Int32 := if k = 0 then rb 0 else if k = 1 then rb 1 else if k = 2 then T 3 else if k = 3 then T 0 else if k = 4 then T 1 else if k = 5 then T 2 else if k = 6 then rb 2 else if k = 7 then rb 3 else if k = 8 then T 4 else if k = 9 then kn else -1
theorem c_X7_count {l : Launch} {w : zE} (J : zJ w) {M : zM} {o : Nat} {k : Int32} (hk : zk o = 7) : zCi l w yX7_count cX7_count 2 (some .int) 0 [.ref (w.2.2 o), .int k] M (fun r M2 => M2 = M ∧ r = cntS (M.1 (o + 1 + 1)) (M.1 (o + 1 + 15)) (M.1 (o + 1) 3) k) := by
  refine zCi_of J zm_X7_count [some (.ref (w.2.2 o)), some (.int k)] (Nat.le_of_ble_eq_true rfl) rfl (fun g hg F X => ?_)
  subst hg
  refine z_iload_n F dX7_count_0 rfl ?_
  refine z_tab10 F dX7_count_1 (tgt0 := 56) (tgt1 := 67) (tgt2 := 78) (tgt3 := 89) (tgt4 := 100) (tgt5 := 111) (tgt6 := 122) (tgt7 := 133) (tgt8 := 144) (tgt9 := 155) (dt := 163) (by decide) (by decide) (by decide) (by decide) (by decide) (by decide) (by decide) (by decide) (by decide) (by decide) (by decide) (fun h_1 => ?_) (fun h_1 => ?_) (fun h_1 => ?_) (fun h_1 => ?_) (fun h_1 => ?_) (fun h_1 => ?_) (fun h_1 => ?_) (fun h_1 => ?_) (fun h_1 => ?_) (fun h_1 => ?_) (fun h_1_0 h_1_1 h_1_2 h_1_3 h_1_4 h_1_5 h_1_6 h_1_7 h_1_8 h_1_9 => ?_)
  · refine z_aload_n F dX7_count_56 rfl ?_
    refine zg_X7_now F (by with_reducible assumption) fl_X7_10 dX7_count_57 (fun hk_57 => ?_)
    refine zg_X6_road F (by with_reducible assumption) fl_X7_44 dX7_count_60 (fun hk_60 => ?_)
    refine zg_X1_thingCount F (by with_reducible assumption) fl_X7_48 dX7_count_63 ?_
    refine z_iret F X dX7_count_66 ?_
    refine ⟨rfl, ?_⟩
    unfold cntS
    first
      | (subst h_1; rfl)
      | (rw [if_neg h_1_0, if_neg h_1_1, if_neg h_1_2, if_neg h_1_3, if_neg h_1_4, if_neg h_1_5, if_neg h_1_6, if_neg h_1_7, if_neg h_1_8, if_neg h_1_9])
  · refine z_aload_n F dX7_count_67 rfl ?_
    refine zg_X7_now F (by with_reducible assumption) fl_X7_10 dX7_count_68 (fun hk_68 => ?_)
    refine zg_X6_road F (by with_reducible assumption) fl_X7_44 dX7_count_71 (fun hk_71 => ?_)
    refine zg_X1_personCount F (by with_reducible assumption) fl_X7_101 dX7_count_74 ?_
    refine z_iret F X dX7_count_77 ?_
    refine ⟨rfl, ?_⟩
    unfold cntS
    first
      | (subst h_1; rfl)
      | (rw [if_neg h_1_0, if_neg h_1_1, if_neg h_1_2, if_neg h_1_3, if_neg h_1_4, if_neg h_1_5, if_neg h_1_6, if_neg h_1_7, if_neg h_1_8, if_neg h_1_9])
  · refine z_aload_n F dX7_count_78 rfl ?_
    refine zg_X7_now F (by with_reducible assumption) fl_X7_10 dX7_count_79 (fun hk_79 => ?_)
    refine zg_X6_trip F (by with_reducible assumption) fl_X7_83 dX7_count_82 (fun hk_82 => ?_)
    refine zg_X5_ahead F (by with_reducible assumption) fl_X7_130 dX7_count_85 ?_
    refine z_iret F X dX7_count_88 ?_
    refine ⟨rfl, ?_⟩
    unfold cntS
    first
      | (subst h_1; rfl)
      | (rw [if_neg h_1_0, if_neg h_1_1, if_neg h_1_2, if_neg h_1_3, if_neg h_1_4, if_neg h_1_5, if_neg h_1_6, if_neg h_1_7, if_neg h_1_8, if_neg h_1_9])
  · refine z_aload_n F dX7_count_89 rfl ?_
    refine zg_X7_now F (by with_reducible assumption) fl_X7_10 dX7_count_90 (fun hk_90 => ?_)
    refine zg_X6_trip F (by with_reducible assumption) fl_X7_83 dX7_count_93 (fun hk_93 => ?_)
    refine zg_X5_his F (by with_reducible assumption) fl_X7_123 dX7_count_96 ?_
    refine z_iret F X dX7_count_99 ?_
    refine ⟨rfl, ?_⟩
    unfold cntS
    first
      | (subst h_1; rfl)
      | (rw [if_neg h_1_0, if_neg h_1_1, if_neg h_1_2, if_neg h_1_3, if_neg h_1_4, if_neg h_1_5, if_neg h_1_6, if_neg h_1_7, if_neg h_1_8, if_neg h_1_9])
  · refine z_aload_n F dX7_count_100 rfl ?_
    refine zg_X7_now F (by with_reducible assumption) fl_X7_10 dX7_count_101 (fun hk_101 => ?_)
    refine zg_X6_trip F (by with_reducible assumption) fl_X7_83 dX7_count_104 (fun hk_104 => ?_)
    refine zg_X5_n F (by with_reducible assumption) fl_X7_133 dX7_count_107 ?_
    refine z_iret F X dX7_count_110 ?_
    refine ⟨rfl, ?_⟩
    unfold cntS
    first
      | (subst h_1; rfl)
      | (rw [if_neg h_1_0, if_neg h_1_1, if_neg h_1_2, if_neg h_1_3, if_neg h_1_4, if_neg h_1_5, if_neg h_1_6, if_neg h_1_7, if_neg h_1_8, if_neg h_1_9])
  · refine z_aload_n F dX7_count_111 rfl ?_
    refine zg_X7_now F (by with_reducible assumption) fl_X7_10 dX7_count_112 (fun hk_112 => ?_)
    refine zg_X6_trip F (by with_reducible assumption) fl_X7_83 dX7_count_115 (fun hk_115 => ?_)
    refine zg_X5_mind F (by with_reducible assumption) fl_X7_136 dX7_count_118 ?_
    refine z_iret F X dX7_count_121 ?_
    refine ⟨rfl, ?_⟩
    unfold cntS
    first
      | (subst h_1; rfl)
      | (rw [if_neg h_1_0, if_neg h_1_1, if_neg h_1_2, if_neg h_1_3, if_neg h_1_4, if_neg h_1_5, if_neg h_1_6, if_neg h_1_7, if_neg h_1_8, if_neg h_1_9])
  · refine z_aload_n F dX7_count_122 rfl ?_
    refine zg_X7_now F (by with_reducible assumption) fl_X7_10 dX7_count_123 (fun hk_123 => ?_)
    refine zg_X6_road F (by with_reducible assumption) fl_X7_44 dX7_count_126 (fun hk_126 => ?_)
    refine zg_X1_heed F (by with_reducible assumption) fl_X7_139 dX7_count_129 ?_
    refine z_iret F X dX7_count_132 ?_
    refine ⟨rfl, ?_⟩
    unfold cntS
    first
      | (subst h_1; rfl)
      | (rw [if_neg h_1_0, if_neg h_1_1, if_neg h_1_2, if_neg h_1_3, if_neg h_1_4, if_neg h_1_5, if_neg h_1_6, if_neg h_1_7, if_neg h_1_8, if_neg h_1_9])
  · refine z_aload_n F dX7_count_133 rfl ?_
    refine zg_X7_now F (by with_reducible assumption) fl_X7_10 dX7_count_134 (fun hk_134 => ?_)
    refine zg_X6_road F (by with_reducible assumption) fl_X7_44 dX7_count_137 (fun hk_137 => ?_)
    refine zg_X1_well F (by with_reducible assumption) fl_X7_142 dX7_count_140 ?_
    refine z_iret F X dX7_count_143 ?_
    refine ⟨rfl, ?_⟩
    unfold cntS
    first
      | (subst h_1; rfl)
      | (rw [if_neg h_1_0, if_neg h_1_1, if_neg h_1_2, if_neg h_1_3, if_neg h_1_4, if_neg h_1_5, if_neg h_1_6, if_neg h_1_7, if_neg h_1_8, if_neg h_1_9])
  · refine z_aload_n F dX7_count_144 rfl ?_
    refine zg_X7_now F (by with_reducible assumption) fl_X7_10 dX7_count_145 (fun hk_145 => ?_)
    refine zg_X6_trip F (by with_reducible assumption) fl_X7_83 dX7_count_148 (fun hk_148 => ?_)
    refine zg_X5_changes F (by with_reducible assumption) fl_X7_145 dX7_count_151 ?_
    refine z_iret F X dX7_count_154 ?_
    refine ⟨rfl, ?_⟩
    unfold cntS
    first
      | (subst h_1; rfl)
      | (rw [if_neg h_1_0, if_neg h_1_1, if_neg h_1_2, if_neg h_1_3, if_neg h_1_4, if_neg h_1_5, if_neg h_1_6, if_neg h_1_7, if_neg h_1_8, if_neg h_1_9])
  · refine z_aload_n F dX7_count_155 rfl ?_
    refine zg_X7_now F (by with_reducible assumption) fl_X7_10 dX7_count_156 (fun hk_156 => ?_)
    refine zg_X6_known F (by with_reducible assumption) fl_X7_54 dX7_count_159 ?_
    refine z_iret F X dX7_count_162 ?_
    refine ⟨rfl, ?_⟩
    unfold cntS
    first
      | (subst h_1; rfl)
      | (rw [if_neg h_1_0, if_neg h_1_1, if_neg h_1_2, if_neg h_1_3, if_neg h_1_4, if_neg h_1_5, if_neg h_1_6, if_neg h_1_7, if_neg h_1_8, if_neg h_1_9])
  · refine z_iconst (v := (-1)) F dX7_count_163 (by decide) ?_
    refine z_iret F X dX7_count_164 ?_
    refine ⟨rfl, ?_⟩
    unfold cntS
    first
      | (subst h_1; rfl)
      | (rw [if_neg h_1_0, if_neg h_1_1, if_neg h_1_2, if_neg h_1_3, if_neg h_1_4, if_neg h_1_5, if_neg h_1_6, if_neg h_1_7, if_neg h_1_8, if_neg h_1_9])
theorem c_X7_heed {l : Launch} {w : zE} (J : zJ w) {M : zM} {o : Nat} {v : Int32} (hk : zk o = 7) : zCi l w yX7_heed cX7_heed 3 (some .int) 1 [.ref (w.2.2 o), .int v] M (fun r M2 => ((v < 0 ∨ 99 < v) ∧ r = -1 ∧ M2 = M) ∨ (¬ (v < 0 ∨ 99 < v) ∧ r = M.1 (o + 1 + 1) 2 ∧ M2 = zs M (o + 1 + 1) 2 v)) := by
  refine zCi_of J zm_X7_heed [some (.ref (w.2.2 o)), some (.int v), none] (Nat.le_of_ble_eq_true rfl) rfl (fun g hg F X => ?_)
  subst hg
  refine z_iload_n F dX7_heed_0 rfl ?_
  refine z_bipush (v := 99) F dX7_heed_1 (by decide) ?_
  refine z_callSi F (c_X7_isNot J) zm_X7_isNot zst_X7_isNot ml_X7_40 rfl rfl (Nat.le_of_ble_eq_true rfl) dX7_heed_3 (by omega) (fun r_3 M_3 h_3 => ?_)
  obtain ⟨e_3, rfl⟩ := h_3
  replace e_3 := Eq.symm e_3
  subst e_3
  refine z_if_eq (tgt := 11) F dX7_heed_6 (by decide) (fun h_6 => ?_) (fun h_6 => ?_)
  · replace h_6 := bI_0.mp h_6
    refine z_aload_n F dX7_heed_11 rfl ?_
    refine zg_X7_now F (by with_reducible assumption) fl_X7_10 dX7_heed_12 (fun hk_12 => ?_)
    refine zg_X6_road F (by with_reducible assumption) fl_X7_44 dX7_heed_15 (fun hk_15 => ?_)
    refine zg_X1_heed F (by with_reducible assumption) fl_X7_139 dX7_heed_18 ?_
    refine z_istore_n (lv' := [_, _, _]) F dX7_heed_21 (by decide) rfl rfl ?_
    refine z_aload_n F dX7_heed_22 rfl ?_
    refine zg_X7_now F (by with_reducible assumption) fl_X7_10 dX7_heed_23 (fun hk_23 => ?_)
    refine zg_X6_road F (by with_reducible assumption) fl_X7_44 dX7_heed_26 (fun hk_26 => ?_)
    refine z_iload_n F dX7_heed_29 rfl ?_
    refine zp_X1_heed F (by with_reducible assumption) fl_X7_139 dX7_heed_30 ?_
    refine z_iload_n F dX7_heed_33 rfl ?_
    refine z_iret F X dX7_heed_34 ?_
    exact Or.inr ⟨h_6, rfl, rfl⟩
  · replace h_6 := bI_1.mp h_6
    refine z_iconst (v := (-1)) F dX7_heed_9 (by decide) ?_
    refine z_iret F X dX7_heed_10 ?_
    exact Or.inl ⟨h_6, rfl, rfl⟩
theorem c_X7_well {l : Launch} {w : zE} (J : zJ w) {M : zM} {o : Nat} {v : Int32} (hk : zk o = 7) : zCi l w yX7_well cX7_well 3 (some .int) 1 [.ref (w.2.2 o), .int v] M (fun r M2 => ((¬ v = -4 ∧ (v < 0 ∨ 11 < v)) ∧ r = -1 ∧ M2 = M) ∨ (¬ (¬ v = -4 ∧ (v < 0 ∨ 11 < v)) ∧ r = M.1 (o + 1 + 1) 3 ∧ M2 = zs M (o + 1 + 1) 3 v)) := by
  refine zCi_of J zm_X7_well [some (.ref (w.2.2 o)), some (.int v), none] (Nat.le_of_ble_eq_true rfl) rfl (fun g hg F X => ?_)
  subst hg
  refine z_iload_n F dX7_well_0 rfl ?_
  refine z_bipush (v := (-4)) F dX7_well_1 (by decide) ?_
  refine z_ic_eq (tgt := 17) F dX7_well_3 (by decide) (fun h_3 => ?_) (fun h_3 => ?_)
  · refine z_aload_n F dX7_well_17 rfl ?_
    refine zg_X7_now F (by with_reducible assumption) fl_X7_10 dX7_well_18 (fun hk_18 => ?_)
    refine zg_X6_road F (by with_reducible assumption) fl_X7_44 dX7_well_21 (fun hk_21 => ?_)
    refine zg_X1_well F (by with_reducible assumption) fl_X7_142 dX7_well_24 ?_
    refine z_istore_n (lv' := [_, _, _]) F dX7_well_27 (by decide) rfl rfl ?_
    refine z_aload_n F dX7_well_28 rfl ?_
    refine zg_X7_now F (by with_reducible assumption) fl_X7_10 dX7_well_29 (fun hk_29 => ?_)
    refine zg_X6_road F (by with_reducible assumption) fl_X7_44 dX7_well_32 (fun hk_32 => ?_)
    refine z_iload_n F dX7_well_35 rfl ?_
    refine zp_X1_well F (by with_reducible assumption) fl_X7_142 dX7_well_36 ?_
    refine z_iload_n F dX7_well_39 rfl ?_
    refine z_iret F X dX7_well_40 ?_
    refine Or.inr ⟨?_, rfl, rfl⟩
    first | exact fun q => q.1 h_3 | exact fun q => h_12 q.2
  · refine z_iload_n F dX7_well_6 rfl ?_
    refine z_bipush (v := 11) F dX7_well_7 (by decide) ?_
    refine z_callSi F (c_X7_isNot J) zm_X7_isNot zst_X7_isNot ml_X7_40 rfl rfl (Nat.le_of_ble_eq_true rfl) dX7_well_9 (by omega) (fun r_9 M_9 h_9 => ?_)
    obtain ⟨e_9, rfl⟩ := h_9
    replace e_9 := Eq.symm e_9
    subst e_9
    refine z_if_eq (tgt := 17) F dX7_well_12 (by decide) (fun h_12 => ?_) (fun h_12 => ?_)
    · replace h_12 := bI_0.mp h_12
      refine z_aload_n F dX7_well_17 rfl ?_
      refine zg_X7_now F (by with_reducible assumption) fl_X7_10 dX7_well_18 (fun hk_18 => ?_)
      refine zg_X6_road F (by with_reducible assumption) fl_X7_44 dX7_well_21 (fun hk_21 => ?_)
      refine zg_X1_well F (by with_reducible assumption) fl_X7_142 dX7_well_24 ?_
      refine z_istore_n (lv' := [_, _, _]) F dX7_well_27 (by decide) rfl rfl ?_
      refine z_aload_n F dX7_well_28 rfl ?_
      refine zg_X7_now F (by with_reducible assumption) fl_X7_10 dX7_well_29 (fun hk_29 => ?_)
      refine zg_X6_road F (by with_reducible assumption) fl_X7_44 dX7_well_32 (fun hk_32 => ?_)
      refine z_iload_n F dX7_well_35 rfl ?_
      refine zp_X1_well F (by with_reducible assumption) fl_X7_142 dX7_well_36 ?_
      refine z_iload_n F dX7_well_39 rfl ?_
      refine z_iret F X dX7_well_40 ?_
      refine Or.inr ⟨?_, rfl, rfl⟩
      first | exact fun q => q.1 h_3 | exact fun q => h_12 q.2
    · replace h_12 := bI_1.mp h_12
      refine z_iconst (v := (-1)) F dX7_well_15 (by decide) ?_
      refine z_iret F X dX7_well_16 ?_
      exact Or.inl ⟨⟨h_3, h_12⟩, rfl, rfl⟩
theorem c_X7_type {l : Launch} {w : zE} (J : zJ w) {M : zM} {o len : Nat} {c : Int32} (hk : zk o = 7) (hl : M.1 (o + 69) 1 = nI len) (h120 : len ≤ 120) : zCi l w yX7_type cX7_type 2 (some .int) 0 [.ref (w.2.2 o), .int c] M (fun r M2 => ((c < 32 ∨ 126 < c) ∧ r = -1 ∧ M2 = M) ∨ (¬ (c < 32 ∨ 126 < c) ∧ len = 120 ∧ r = -3 ∧ M2 = M) ∨ (¬ (c < 32 ∨ 126 < c) ∧ len < 120 ∧ r = nI (len + 1) ∧ M2 = zs (zs M (o + 69 + 1) len c) (o + 69) 1 (nI (len + 1)))) := by
  have hpc : (nI len).toNatClampNeg = len := nI_clamp (by omega)
  have e1 : ∀ v, (zs M (o + 69 + 1) len v).1 (o + 69) = M.1 (o + 69) := fun v => zs_off _ (by omega)
  refine zCi_of J zm_X7_type [some (.ref (w.2.2 o)), some (.int c)] (Nat.le_of_ble_eq_true rfl) rfl (fun g hg F X => ?_)
  subst hg
  refine z_iload_n F dX7_type_0 rfl ?_
  refine z_bipush (v := 32) F dX7_type_1 (by decide) ?_
  refine z_ic_lt (tgt := 12) F dX7_type_3 (by decide) (fun h_3 => ?_) (fun h_3 => ?_)
  · try simp only [hl, e1, zs_at, va_up_self, nI_1] at h_3
    refine z_iconst (v := (-1)) F dX7_type_12 (by decide) ?_
    refine z_iret F X dX7_type_13 ?_
    refine Or.inl ⟨?_, rfl, rfl⟩
    first | exact Or.inl h_3 | exact Or.inr h_9
  · try simp only [hl, e1, zs_at, va_up_self, nI_1] at h_3
    refine z_iload_n F dX7_type_6 rfl ?_
    refine z_bipush (v := 126) F dX7_type_7 (by decide) ?_
    refine z_ic_le (tgt := 14) F dX7_type_9 (by decide) (fun h_9 => ?_) (fun h_9 => ?_)
    · try simp only [hl, e1, zs_at, va_up_self, nI_1] at h_9
      refine z_aload_n F dX7_type_14 rfl ?_
      refine zg_X7_tape F (by with_reducible assumption) fl_X7_22 dX7_type_15 (fun hk_15 => ?_)
      refine zg_X3_length F (by with_reducible assumption) fl_X7_148 dX7_type_18 ?_
      try simp only [hl, e1, zs_at, va_up_self, nI_1]
      refine z_bipush (v := 120) F dX7_type_21 (by decide) ?_
      refine z_ic_lt (tgt := 29) F dX7_type_23 (by decide) (fun h_23 => ?_) (fun h_23 => ?_)
      · try simp only [hl, e1, zs_at, va_up_self, nI_1] at h_23
        refine z_aload_n F dX7_type_29 rfl ?_
        refine zg_X7_tape F (by with_reducible assumption) fl_X7_22 dX7_type_30 (fun hk_30 => ?_)
        refine zg_X3_letters F (by with_reducible assumption) fl_X7_151 dX7_type_33 (fun hk_33 => ?_)
        refine z_aload_n F dX7_type_36 rfl ?_
        refine zg_X7_tape F (by with_reducible assumption) fl_X7_22 dX7_type_37 (fun hk_37 => ?_)
        refine zg_X3_length F (by with_reducible assumption) fl_X7_148 dX7_type_40 ?_
        try simp only [hl, e1, zs_at, va_up_self, nI_1]
        refine z_iload_n F dX7_type_43 rfl ?_
        refine z_i2c F dX7_type_44 ?_
        have hcn : ∃ k, k < 128 ∧ c = nI k := by
          obtain ⟨k, hk1, hk2⟩ := nI_of2 (x := c) (M := 126) (n := 126) (by decide) (Int32.not_lt.mpr (Int32.le_trans (by decide) h_3)) h_9
          exact ⟨k, by omega, hk2⟩
        obtain ⟨k, hk1, hk2⟩ := hcn
        have hcc : (c.toUInt32 % 65536).toInt32 = c := by rw [hk2]; exact (by decide +kernel : ∀ k, k < 128 → ((nI k).toUInt32 % 65536).toInt32 = nI k) k hk1
        have hcv : vp_nar .char c = c := by rw [hk2]; exact (by decide +kernel : ∀ k, k < 128 → vp_nar .char (nI k) = nI k) k hk1
        have hlt : len < 120 := (nI_ltI (b := 120) (by omega) (by decide)).mp h_23
        rw [hcc]
        refine z_cast9 F (by with_reducible assumption) (vp_in_nI hlt (by decide)) hcv dX7_type_45 ?_
        rw [hpc]
        refine z_aload_n F dX7_type_46 rfl ?_
        refine zg_X7_tape F (by with_reducible assumption) fl_X7_22 dX7_type_47 (fun hk_47 => ?_)
        refine z_dup F dX7_type_50 rfl ?_
        refine zg_X3_length F (by with_reducible assumption) fl_X7_148 dX7_type_51 ?_
        try simp only [hl, e1, zs_at, va_up_self, nI_1]
        refine z_iconst (v := 1) F dX7_type_54 (by decide) ?_
        refine z_iadd F dX7_type_55 ?_
        refine zp_X3_length F (by with_reducible assumption) fl_X7_148 dX7_type_56 ?_
        refine z_aload_n F dX7_type_59 rfl ?_
        refine zg_X7_tape F (by with_reducible assumption) fl_X7_22 dX7_type_60 (fun hk_60 => ?_)
        refine zg_X3_length F (by with_reducible assumption) fl_X7_148 dX7_type_63 ?_
        try simp only [hl, e1, zs_at, va_up_self, nI_1]
        refine z_iret F X dX7_type_66 ?_
        exact Or.inr (Or.inr ⟨fun q => q.elim (nlt h_3) (nlt h_9), hlt, rfl, rfl⟩)
      · try simp only [hl, e1, zs_at, va_up_self, nI_1] at h_23
        refine z_bipush (v := (-3)) F dX7_type_26 (by decide) ?_
        refine z_iret F X dX7_type_28 ?_
        refine Or.inr (Or.inl ⟨fun q => q.elim (nlt h_3) (nlt h_9), ?_, rfl, rfl⟩)
        have := (nI_leI (a := 120) (by decide) (by omega)).mp h_23
        omega
    · try simp only [hl, e1, zs_at, va_up_self, nI_1] at h_9
      refine z_iconst (v := (-1)) F dX7_type_12 (by decide) ?_
      refine z_iret F X dX7_type_13 ?_
      refine Or.inl ⟨?_, rfl, rfl⟩
      first | exact Or.inl h_3 | exact Or.inr h_9
theorem c_X7_again {l : Launch} {w : zE} (J : zJ w) {M : zM} {o : Nat} (hk : zk o = 7) : zCi l w yX7_again cX7_again 2 (some .int) 0 [.ref (w.2.2 o)] M (fun r M2 => r = M.1 (o + 1 + 15) 3 ∧ M2 = zs M (o + 1 + 15) 3 0) := by
  refine zCi_of J zm_X7_again [some (.ref (w.2.2 o)), none] (Nat.le_of_ble_eq_true rfl) rfl (fun g hg F X => ?_)
  subst hg
  refine z_aload_n F dX7_again_0 rfl ?_
  refine zg_X7_now F (by with_reducible assumption) fl_X7_10 dX7_again_1 (fun hk_1 => ?_)
  refine zg_X6_trip F (by with_reducible assumption) fl_X7_83 dX7_again_4 (fun hk_4 => ?_)
  refine zg_X5_ahead F (by with_reducible assumption) fl_X7_130 dX7_again_7 ?_
  refine z_istore_n (lv' := [_, _]) F dX7_again_10 (by decide) rfl rfl ?_
  refine z_aload_n F dX7_again_11 rfl ?_
  refine zg_X7_now F (by with_reducible assumption) fl_X7_10 dX7_again_12 (fun hk_12 => ?_)
  refine zg_X6_trip F (by with_reducible assumption) fl_X7_83 dX7_again_15 (fun hk_15 => ?_)
  refine z_iconst (v := 0) F dX7_again_18 (by decide) ?_
  refine zp_X5_ahead F (by with_reducible assumption) fl_X7_130 dX7_again_19 ?_
  refine z_iload_n F dX7_again_22 rfl ?_
  refine z_iret F X dX7_again_23 ?_
  exact ⟨rfl, rfl⟩
theorem c_X7_undo {l : Launch} {w : zE} (J : zJ w) {M : zM} {o k : Nat} (hk : zk o = 7) (hp : pmF (M.1 (o + 1 + 17))) (hn : M.1 (o + 1) 3 = nI k) (h8 : k ≤ 8) : zCi l w yX7_undo cX7_undo 1 (some .int) 3 [.ref (w.2.2 o)] M (fun r M2 => (k = 0 ∧ r = -4 ∧ M2 = M) ∨ (∃ j, k = j + 1 ∧ r = nI j ∧ M2 = za (zs M (o + 1) 3 (nI j)) (o + 1 + 15) (M.1 (o + 1 + 18 + 2 * (M.1 (o + 1 + 17) j).toNatClampNeg)))) := by
  refine zCi_of J zm_X7_undo [some (.ref (w.2.2 o))] (Nat.le_of_ble_eq_true rfl) rfl (fun g hg F X => ?_)
  subst hg
  match k, h8, hn with
  | 0, h8, hn =>
    refine z_aload_n F dX7_undo_0 rfl ?_
    refine zg_X7_now F (by with_reducible assumption) fl_X7_10 dX7_undo_1 (fun hk_1 => ?_)
    refine zg_X6_known F (by with_reducible assumption) fl_X7_54 dX7_undo_4 ?_
    try simp only [hn]
    refine z_if_gt (tgt := 13) F dX7_undo_7 (by decide) (fun h_7 => absurd h_7 (by decide)) (fun h_7 => ?_)
    refine z_bipush (v := (-4)) F dX7_undo_10 (by decide) ?_
    refine z_iret F X dX7_undo_12 ?_
    exact Or.inl ⟨rfl, rfl, rfl⟩
  | j + 1, h8, hn =>
    have hj : 0 < nI (j + 1) := nI_lt (a := 0) (by omega) (by omega)
    refine z_aload_n F dX7_undo_0 rfl ?_
    refine zg_X7_now F (by with_reducible assumption) fl_X7_10 dX7_undo_1 (fun hk_1 => ?_)
    refine zg_X6_known F (by with_reducible assumption) fl_X7_54 dX7_undo_4 ?_
    try simp only [hn, za_off _ (show o + 1 ≠ o + 1 + 15 by omega), zs_at, va_up_self]
    refine z_if_gt (tgt := 13) F dX7_undo_7 (by decide) (fun h_7 => ?_) (fun h_7 => absurd h_7 (Int32.not_le.mpr hj))
    refine z_aload_n F dX7_undo_13 rfl ?_
    refine zg_X7_now F (by with_reducible assumption) fl_X7_10 dX7_undo_14 (fun hk_14 => ?_)
    refine z_callVv F (c_X6_stepBack J (by with_reducible assumption) hp hn (by omega)) zm_X6_stepBack zv_X6_stepBack ml_X7_178 (by with_reducible assumption) (by decide) rfl rfl rfl (Nat.le_of_ble_eq_true rfl) dX7_undo_17 (by omega) (fun M_17 h_17 => ?_)
    replace h_17 := Eq.symm h_17
    subst h_17
    refine z_aload_n F dX7_undo_20 rfl ?_
    refine zg_X7_now F (by with_reducible assumption) fl_X7_10 dX7_undo_21 (fun hk_21 => ?_)
    refine zg_X6_known F (by with_reducible assumption) fl_X7_54 dX7_undo_24 ?_
    try simp only [hn, za_off _ (show o + 1 ≠ o + 1 + 15 by omega), zs_at, va_up_self]
    refine z_iret F X dX7_undo_27 ?_
    exact Or.inr ⟨j, rfl, rfl, rfl⟩
theorem c_X7_go {l : Launch} {w : zE} (J : zJ w) {M : zM} {o k np : Nat} (hk : zk o = 7) (hp : pmF (M.1 (o + 1 + 17))) (hn : M.1 (o + 1) 3 = nI k) (h8 : k ≤ 8) (hnt : M.1 (o + 1 + 1) 0 ≤ 10) (hnp : M.1 (o + 1 + 1) 1 = nI np) (hnp9 : np ≤ 8) : zCi l w yX7_go cX7_go 1 (some .int) 4 [.ref (w.2.2 o)] M (fun r M2 => (12 ≤ M.1 (o + 1 + 15) 3 ∧ r = -2 ∧ M2 = M) ∨ (M.1 (o + 1 + 15) 3 < 12 ∧ ∃ rf, r = (passF (M.1 (o + 1 + 1)) (M.1 (o + 1 + 1 + 1)) (M.1 (o + 1 + 1 + 12)) np 1 (M.1 (o + 1 + 15), M.1 (o + 1 + 15 + 1) 0)).1 4 - M.1 (o + 1 + 15) 4 ∧ M2 = zt (remF M (o + 1) k) (o + 1 + 15) (passF (M.1 (o + 1 + 1)) (M.1 (o + 1 + 1 + 1)) (M.1 (o + 1 + 1 + 12)) np 1 (M.1 (o + 1 + 15), M.1 (o + 1 + 15 + 1) 0)).1 rf)) := by
  have q0 : ∀ b, b ≠ o + 1 → (b < o + 1 + 17 ∨ o + 1 + 34 ≤ b) → (remF M (o + 1) k).1 b = M.1 b := by
    intro b h1 h2
    unfold remF
    have l0 := hp.lt (k := 0) (by decide)
    split
    · next hc =>
      have lk := hp.lt hc
      rw [zs_off _ h1, za_off _ (by omega)]
    · rw [zs_off _ h1, za_off _ (by omega), za_off _ (by omega)]
  refine zCi_of J zm_X7_go [some (.ref (w.2.2 o))] (Nat.le_of_ble_eq_true rfl) rfl (fun g hg F X => ?_)
  subst hg
  refine z_aload_n F dX7_go_0 rfl ?_
  refine zg_X7_now F (by with_reducible assumption) fl_X7_10 dX7_go_1 (fun hk_1 => ?_)
  refine zg_X6_trip F (by with_reducible assumption) fl_X7_83 dX7_go_4 (fun hk_4 => ?_)
  refine zg_X5_ahead F (by with_reducible assumption) fl_X7_130 dX7_go_7 ?_
  refine z_bipush (v := 12) F dX7_go_10 (by decide) ?_
  refine z_ic_lt (tgt := 18) F dX7_go_12 (by decide) (fun h_12 => ?_) (fun h_12 => ?_)
  · refine z_aload_n F dX7_go_18 rfl ?_
    refine zg_X7_now F (by with_reducible assumption) fl_X7_10 dX7_go_19 (fun hk_19 => ?_)
    refine z_callVv F (c_X6_remember J (by with_reducible assumption) hp hn h8) zm_X6_remember zv_X6_remember ml_X7_171 (by with_reducible assumption) (by decide) rfl rfl rfl (Nat.le_of_ble_eq_true rfl) dX7_go_22 (by omega) (fun M_22 h_22 => ?_)
    replace h_22 := Eq.symm h_22
    subst h_22
    refine z_aload_n F dX7_go_25 rfl ?_
    refine zg_X7_now F (by with_reducible assumption) fl_X7_10 dX7_go_26 (fun hk_26 => ?_)
    refine zg_X6_road F (by with_reducible assumption) fl_X7_44 dX7_go_29 (fun hk_29 => ?_)
    refine z_aload_n F dX7_go_32 rfl ?_
    refine zg_X7_now F (by with_reducible assumption) fl_X7_10 dX7_go_33 (fun hk_33 => ?_)
    refine zg_X6_trip F (by with_reducible assumption) fl_X7_83 dX7_go_36 (fun hk_36 => ?_)
    refine z_iconst (v := 1) F dX7_go_39 (by decide) ?_
    refine z_callVi F (c_X1_pass J (by with_reducible assumption) (by with_reducible assumption) (by rw [q0 _ (by omega) (by omega)]; exact hnt) (np := np) (by rw [q0 _ (by omega) (by omega)]; exact hnp) (by omega)) zm_X1_pass zv_X1_pass ml_X7_174 (by with_reducible assumption) (by decide) rfl rfl rfl (Nat.le_of_ble_eq_true rfl) dX7_go_40 (by omega) (fun r_40 M_40 h_40 => ?_)
    obtain ⟨e_40, rfl⟩ := h_40
    replace e_40 := Eq.symm e_40
    subst e_40
    refine z_iret F X dX7_go_43 ?_
    rw [q0 (o + 1 + 1) (by omega) (by omega), q0 (o + 1 + 1 + 1) (by omega) (by omega), q0 (o + 1 + 1 + 12) (by omega) (by omega), q0 (o + 1 + 15) (by omega) (by omega), q0 (o + 1 + 15 + 1) (by omega) (by omega)]
    exact Or.inr ⟨h_12, _, rfl, rfl⟩
  · refine z_bipush (v := (-2)) F dX7_go_15 (by decide) ?_
    refine z_iret F X dX7_go_17 ?_
    exact Or.inl ⟨h_12, rfl, rfl⟩
end
section
def gldS (rb th T : zF1) (x : Int32) : Int32 := if 0 ≤ x ∧ x < rb 0 then (if T 0 = -4 ∨ T 0 = x then -2 else bI (gladF th 1 (rb 2) T x)) else -1
theorem c_X7_glad {l : Launch} {w : zE} (J : zJ w) {M : zM} {o : Nat} {x : Int32} (hk : zk o = 7) (hnt : M.1 (o + 1 + 1) 0 ≤ 10) (hh : M.1 (o + 1 + 15) 0 = -4 ∨ 0 ≤ M.1 (o + 1 + 15) 0 ∧ M.1 (o + 1 + 15) 0 < 10) : zCi l w yX7_glad cX7_glad 2 (some .int) 2 [.ref (w.2.2 o), .int x] M (fun r M2 => M2 = M ∧ r = gldS (M.1 (o + 1 + 1)) (M.1 (o + 1 + 1 + 1)) (M.1 (o + 1 + 15)) x) := by
  refine zCi_of J zm_X7_glad [some (.ref (w.2.2 o)), some (.int x)] (Nat.le_of_ble_eq_true rfl) rfl (fun g hg F X => ?_)
  subst hg
  refine z_aload_n F dX7_glad_0 rfl ?_
  refine zg_X7_now F (by with_reducible assumption) fl_X7_10 dX7_glad_1 (fun hk_1 => ?_)
  refine zg_X6_road F (by with_reducible assumption) fl_X7_44 dX7_glad_4 (fun hk_4 => ?_)
  refine z_iload_n F dX7_glad_7 rfl ?_
  refine z_callVi F (c_X1_isThing J (by with_reducible assumption)) zm_X1_isThing zv_X1_isThing ml_X7_61 (by with_reducible assumption) (by decide) rfl rfl rfl (Nat.le_of_ble_eq_true rfl) dX7_glad_8 (by omega) (fun r_8 M_8 h_8 => ?_)
  obtain ⟨e_8, rfl⟩ := h_8
  replace e_8 := Eq.symm e_8
  subst e_8
  refine z_if_ne (tgt := 16) F dX7_glad_11 (by decide) (fun h_11 => ?_) (fun h_11 => ?_)
  · replace h_11 := bI_1.mp h_11
    refine z_aload_n F dX7_glad_16 rfl ?_
    refine zg_X7_now F (by with_reducible assumption) fl_X7_10 dX7_glad_17 (fun hk_17 => ?_)
    refine zg_X6_trip F (by with_reducible assumption) fl_X7_83 dX7_glad_20 (fun hk_20 => ?_)
    refine zg_X5_his F (by with_reducible assumption) fl_X7_123 dX7_glad_23 ?_
    refine z_bipush (v := (-4)) F dX7_glad_26 (by decide) ?_
    refine z_ic_eq (tgt := 45) F dX7_glad_28 (by decide) (fun h_28 => ?_) (fun h_28 => ?_)
    · refine z_bipush (v := (-2)) F dX7_glad_45 (by decide) ?_
      refine z_iret F X dX7_glad_47 ?_
      refine ⟨rfl, ?_⟩
      rw [gldS, if_pos h_11]
      first | exact (if_pos (Or.inl h_28)).symm | exact (if_pos (Or.inr h_42)).symm
    · refine z_aload_n F dX7_glad_31 rfl ?_
      refine zg_X7_now F (by with_reducible assumption) fl_X7_10 dX7_glad_32 (fun hk_32 => ?_)
      refine zg_X6_trip F (by with_reducible assumption) fl_X7_83 dX7_glad_35 (fun hk_35 => ?_)
      refine zg_X5_his F (by with_reducible assumption) fl_X7_123 dX7_glad_38 ?_
      refine z_iload_n F dX7_glad_41 rfl ?_
      refine z_ic_ne (tgt := 48) F dX7_glad_42 (by decide) (fun h_42 => ?_) (fun h_42 => ?_)
      · refine z_aload_n F dX7_glad_48 rfl ?_
        refine zg_X7_now F (by with_reducible assumption) fl_X7_10 dX7_glad_49 (fun hk_49 => ?_)
        refine zg_X6_road F (by with_reducible assumption) fl_X7_44 dX7_glad_52 (fun hk_52 => ?_)
        refine z_aload_n F dX7_glad_55 rfl ?_
        refine zg_X7_now F (by with_reducible assumption) fl_X7_10 dX7_glad_56 (fun hk_56 => ?_)
        refine zg_X6_trip F (by with_reducible assumption) fl_X7_83 dX7_glad_59 (fun hk_59 => ?_)
        refine z_iload_n F dX7_glad_62 rfl ?_
        refine z_aload_n F dX7_glad_63 rfl ?_
        refine zg_X7_now F (by with_reducible assumption) fl_X7_10 dX7_glad_64 (fun hk_64 => ?_)
        refine zg_X6_road F (by with_reducible assumption) fl_X7_44 dX7_glad_67 (fun hk_67 => ?_)
        refine zg_X1_heed F (by with_reducible assumption) fl_X7_139 dX7_glad_70 ?_
        refine z_iconst (v := 1) F dX7_glad_73 (by decide) ?_
        refine z_callVi F (c_X1_isGlad J (by with_reducible assumption) (by with_reducible assumption) (hh.resolve_left h_28) ⟨h_11.1, Int32.lt_of_lt_of_le h_11.2 hnt⟩) zm_X1_isGlad zv_X1_isGlad ml_X7_181 (by with_reducible assumption) (by decide) rfl rfl rfl (Nat.le_of_ble_eq_true rfl) dX7_glad_74 (by omega) (fun r_74 M_74 h_74 => ?_)
        obtain ⟨e_74, rfl⟩ := h_74
        replace e_74 := Eq.symm e_74
        subst e_74
        refine z_if_eq (tgt := 84) F dX7_glad_77 (by decide) (fun h_77 => ?_) (fun h_77 => ?_)
        · replace h_77 := bI_0.mp h_77
          refine z_iconst (v := 0) F dX7_glad_84 (by decide) ?_
          refine z_iret F X dX7_glad_85 ?_
          refine ⟨rfl, ?_⟩
          rw [gldS, if_pos h_11, if_neg (fun q => q.elim h_28 h_42)]
          first | exact bI_t h_77 | exact bI_f h_77
        · replace h_77 := bI_1.mp h_77
          refine z_iconst (v := 1) F dX7_glad_80 (by decide) ?_
          refine z_goto (tgt := 85) F dX7_glad_81 (by decide) ?_
          refine z_iret F X dX7_glad_85 ?_
          refine ⟨rfl, ?_⟩
          rw [gldS, if_pos h_11, if_neg (fun q => q.elim h_28 h_42)]
          first | exact bI_t h_77 | exact bI_f h_77
      · refine z_bipush (v := (-2)) F dX7_glad_45 (by decide) ?_
        refine z_iret F X dX7_glad_47 ?_
        refine ⟨rfl, ?_⟩
        rw [gldS, if_pos h_11]
        first | exact (if_pos (Or.inl h_28)).symm | exact (if_pos (Or.inr h_42)).symm
  · replace h_11 := bI_0.mp h_11
    refine z_iconst (v := (-1)) F dX7_glad_14 (by decide) ?_
    refine z_iret F X dX7_glad_15 ?_
    exact ⟨rfl, by rw [gldS, if_neg h_11]⟩
def homS (M : zM) (n np a : Nat) (k : Int32) : Int32 := if k < 0 ∨ 2 < k then -1 else if k = 0 then (hmF M n np a).1 0 else if k = 1 then (hmF M n np a).1 4 - M.1 (n + 15) 4 else (hmF M n np a).2
theorem c_X7_home {l : Launch} {w : zE} (J : zJ w) {M : zM} {o np a : Nat} {k : Int32} (hk : zk o = 7) (ho : o = 0) (ok : nowOK M (o + 1) np a) : zCi l w yX7_home cX7_home 3 (some .int) 6 [.ref (w.2.2 o), .int k] M (fun r M2 => zfr M M2 ∧ r = homS M (o + 1) np a k) := by
  refine zCi_of J zm_X7_home [some (.ref (w.2.2 o)), some (.int k), none] (Nat.le_of_ble_eq_true rfl) rfl (fun g hg F X => ?_)
  subst hg
  refine z_iload_n F dX7_home_0 rfl ?_
  refine z_iconst (v := 2) F dX7_home_1 (by decide) ?_
  refine z_callSi F (c_X7_isNot J) zm_X7_isNot zst_X7_isNot ml_X7_40 rfl rfl (Nat.le_of_ble_eq_true rfl) dX7_home_2 (by omega) (fun r_2 M_2 h_2 => ?_)
  obtain ⟨e_2, rfl⟩ := h_2
  replace e_2 := Eq.symm e_2
  subst e_2
  refine z_if_eq (tgt := 10) F dX7_home_5 (by decide) (fun h_5 => ?_) (fun h_5 => ?_)
  · replace h_5 := bI_0.mp h_5
    try simp only [f2, f3, f1.2 (o + 1 + 15) (by omega)] at h_5
    refine z_aload_n F dX7_home_10 rfl ?_
    refine zg_X7_foresight F (by with_reducible assumption) fl_X7_29 dX7_home_11 (fun hk_11 => ?_)
    refine z_aload_n F dX7_home_14 rfl ?_
    refine zg_X7_now F (by with_reducible assumption) fl_X7_10 dX7_home_15 (fun hk_15 => ?_)
    refine z_callVr F (c_X0_endOf J (by with_reducible assumption) (by with_reducible assumption) (by omega) (by omega) ok) zm_X0_endOf zv_X0_endOf ml_X7_185 (by with_reducible assumption) (by decide) rfl rfl rfl (Nat.le_of_ble_eq_true rfl) dX7_home_18 (by omega) (fun r_18 M_18 h_18 => ?_)
    obtain ⟨rfl, f1, f2, f3⟩ := h_18
    obtain ⟨_, k15, _⟩ := zkf0 (o + 87) (zk_i hk_11 (by decide)) hk_11
    refine z_astore_n (lv' := [_, _, _]) F dX7_home_21 (by decide) rfl rfl ?_
    refine z_iload_n F dX7_home_22 rfl ?_
    refine z_look2 (tgt0 := 48) (tgt1 := 53) (dt := 69) F dX7_home_23 (by decide) (by decide) (by decide) (fun h_23 => ?_) (fun h_23 => ?_) (fun h_23_0 h_23_1 => ?_)
    · refine z_aload_n F dX7_home_48 rfl ?_
      refine zg_X5_his F (by with_reducible assumption) fl_X7_123 dX7_home_49 ?_
      try simp only [f2, f3, f1.2 (o + 1 + 15) (by omega)]
      refine z_iret F X dX7_home_52 ?_
      refine ⟨f1, ?_⟩
      rw [homS, if_neg h_5]
      first | (subst h_23; rfl) | rw [if_neg h_23_0, if_neg h_23_1]
    · refine z_aload_n F dX7_home_53 rfl ?_
      refine zg_X5_changes F (by with_reducible assumption) fl_X7_145 dX7_home_54 ?_
      try simp only [f2, f3, f1.2 (o + 1 + 15) (by omega)]
      refine z_aload_n F dX7_home_57 rfl ?_
      refine zg_X7_now F (by with_reducible assumption) fl_X7_10 dX7_home_58 (fun hk_58 => ?_)
      refine zg_X6_trip F (by with_reducible assumption) fl_X7_83 dX7_home_61 (fun hk_61 => ?_)
      refine zg_X5_changes F (by with_reducible assumption) fl_X7_145 dX7_home_64 ?_
      try simp only [f2, f3, f1.2 (o + 1 + 15) (by omega)]
      refine z_isub F dX7_home_67 ?_
      refine z_iret F X dX7_home_68 ?_
      refine ⟨f1, ?_⟩
      rw [homS, if_neg h_5]
      first | (subst h_23; rfl) | rw [if_neg h_23_0, if_neg h_23_1]
    · refine z_aload_n F dX7_home_69 rfl ?_
      refine zg_X5_refused F (by with_reducible assumption) fl_X7_189 dX7_home_70 ?_
      try simp only [f2, f3, f1.2 (o + 1 + 15) (by omega)]
      refine z_iret F X dX7_home_73 ?_
      refine ⟨f1, ?_⟩
      rw [homS, if_neg h_5]
      first | (subst h_23; rfl) | rw [if_neg h_23_0, if_neg h_23_1]
  · replace h_5 := bI_1.mp h_5
    try simp only [f2, f3, f1.2 (o + 1 + 15) (by omega)] at h_5
    refine z_iconst (v := (-1)) F dX7_home_8 (by decide) ?_
    refine z_iret F X dX7_home_9 ?_
    exact ⟨zfr.rf M, (if_pos h_5).symm⟩
def lostS (M : zM) (n np a : Nat) : Int32 := worthO (M.1 (n + 1 + 1)) (M.1 (n + 1) 0) (M.1 (n + 15) 0) - worthO (M.1 (n + 1 + 1)) (M.1 (n + 1) 0) ((hmF M n np a).1 0)
theorem c_X7_lost {l : Launch} {w : zE} (J : zJ w) {M : zM} {o np a : Nat} (hk : zk o = 7) (ho : o = 0) (ok : nowOK M (o + 1) np a) : zCi l w yX7_lost cX7_lost 1 (some .int) 6 [.ref (w.2.2 o)] M (fun r M2 => zfr M M2 ∧ r = lostS M (o + 1) np a) := by
  refine zCi_of J zm_X7_lost [some (.ref (w.2.2 o))] (Nat.le_of_ble_eq_true rfl) rfl (fun g hg F X => ?_)
  subst hg
  refine z_aload_n F dX7_lost_0 rfl ?_
  refine zg_X7_now F (by with_reducible assumption) fl_X7_10 dX7_lost_1 (fun hk_1 => ?_)
  refine zg_X6_road F (by with_reducible assumption) fl_X7_44 dX7_lost_4 (fun hk_4 => ?_)
  refine z_aload_n F dX7_lost_7 rfl ?_
  refine zg_X7_now F (by with_reducible assumption) fl_X7_10 dX7_lost_8 (fun hk_8 => ?_)
  refine zg_X6_trip F (by with_reducible assumption) fl_X7_83 dX7_lost_11 (fun hk_11 => ?_)
  refine zg_X5_his F (by with_reducible assumption) fl_X7_123 dX7_lost_14 ?_
  try simp only [f2]
  refine z_callVi F (c_X1_worthOf J (by with_reducible assumption) ok.1) zm_X1_worthOf zv_X1_worthOf ml_X7_192 (by with_reducible assumption) (by decide) rfl rfl rfl (Nat.le_of_ble_eq_true rfl) dX7_lost_17 (by omega) (fun r_17 M_17 h_17 => ?_)
  obtain ⟨e_17, rfl⟩ := h_17
  replace e_17 := Eq.symm e_17
  subst e_17
  refine z_aload_n F dX7_lost_20 rfl ?_
  refine zg_X7_now F (by with_reducible assumption) fl_X7_10 dX7_lost_21 (fun hk_21 => ?_)
  refine zg_X6_road F (by with_reducible assumption) fl_X7_44 dX7_lost_24 (fun hk_24 => ?_)
  refine z_aload_n F dX7_lost_27 rfl ?_
  refine zg_X7_foresight F (by with_reducible assumption) fl_X7_29 dX7_lost_28 (fun hk_28 => ?_)
  refine z_aload_n F dX7_lost_31 rfl ?_
  refine zg_X7_now F (by with_reducible assumption) fl_X7_10 dX7_lost_32 (fun hk_32 => ?_)
  refine z_callVr F (c_X0_endOf J (by with_reducible assumption) (by with_reducible assumption) (by omega) (by omega) ok) zm_X0_endOf zv_X0_endOf ml_X7_185 (by with_reducible assumption) (by decide) rfl rfl rfl (Nat.le_of_ble_eq_true rfl) dX7_lost_35 (by omega) (fun r_35 M_35 h_35 => ?_)
  obtain ⟨rfl, f1, f2, f3⟩ := h_35
  obtain ⟨_, k15, _⟩ := zkf0 (o + 87) (zk_i hk_28 (by decide)) hk_28
  refine zg_X5_his F (by with_reducible assumption) fl_X7_123 dX7_lost_38 ?_
  try simp only [f2]
  refine z_callVi F (c_X1_worthOf J (by with_reducible assumption) (by rw [f1.2 _ (by omega)]; exact ok.1)) zm_X1_worthOf zv_X1_worthOf ml_X7_192 (by with_reducible assumption) (by decide) rfl rfl rfl (Nat.le_of_ble_eq_true rfl) dX7_lost_41 (by omega) (fun r_41 M_41 h_41 => ?_)
  obtain ⟨e_41, rfl⟩ := h_41
  replace e_41 := Eq.symm e_41
  subst e_41
  refine z_isub F dX7_lost_44 ?_
  refine z_iret F X dX7_lost_45 ?_
  refine ⟨f1, ?_⟩
  rw [f1.2 (o + 1 + 1) (by omega), f1.2 (o + 1 + 1 + 1) (by omega)]
  rfl
def wtS (M : zM) (n np a nt : Nat) (x m0 : Int32) : Int32 × Int32 := waitL (worthO (M.1 (n + 1 + 1)) (M.1 (n + 1) 0)) (fun k => whoF (M.1 (n + 15)) np (nI k)) (fun k => waitS (waitQ (M.1 (n + 1)) (M.1 (n + 1 + 1)) (M.1 (n + 1 + 12)) np a (M.1 (n + 15)) k) x (12 - a) a) nt 0 (-4, m0)
def lrkS (M : zM) (n np a nt : Nat) (x k m0 : Int32) : Int32 := if (0 ≤ x ∧ x < M.1 (n + 1) 0) ∧ ¬ (k < 0 ∨ 1 < k) then (if whoF (M.1 (n + 15)) np x = -4 then -2 else if (wtS M n np a nt x m0).1 = -4 then -4 else if k = 0 then (wtS M n np a nt x m0).1 else (wtS M n np a nt x m0).2) else -1
theorem c_X7_lurk {l : Launch} {w : zE} (J : zJ w) {M : zM} {o np a nt : Nat} {x k : Int32} (hk : zk o = 7) (ho : o = 0) (ok : nowOK M (o + 1) np a) (hnt : M.1 (o + 1 + 1) 0 = nI nt) (h10 : nt ≤ 10) : zCi l w yX7_lurk cX7_lurk 4 (some .int) 6 [.ref (w.2.2 o), .int x, .int k] M (fun r M2 => zfr M M2 ∧ r = lrkS M (o + 1) np a nt x k (M.1 (o + 87) 4)) := by
  refine zCi_of J zm_X7_lurk [some (.ref (w.2.2 o)), some (.int x), some (.int k), none] (Nat.le_of_ble_eq_true rfl) rfl (fun g hg F X => ?_)
  subst hg
  refine z_aload_n F dX7_lurk_0 rfl ?_
  refine zg_X7_now F (by with_reducible assumption) fl_X7_10 dX7_lurk_1 (fun hk_1 => ?_)
  refine zg_X6_road F (by with_reducible assumption) fl_X7_44 dX7_lurk_4 (fun hk_4 => ?_)
  refine z_iload_n F dX7_lurk_7 rfl ?_
  refine z_callVi F (c_X1_isThing J (by with_reducible assumption)) zm_X1_isThing zv_X1_isThing ml_X7_61 (by with_reducible assumption) (by decide) rfl rfl rfl (Nat.le_of_ble_eq_true rfl) dX7_lurk_8 (by omega) (fun r_8 M_8 h_8 => ?_)
  obtain ⟨e_8, rfl⟩ := h_8
  replace e_8 := Eq.symm e_8
  subst e_8
  refine z_if_eq (tgt := 22) F dX7_lurk_11 (by decide) (fun h_11 => ?_) (fun h_11 => ?_)
  · replace h_11 := bI_0.mp h_11
    try simp only [f3] at h_11
    refine z_iconst (v := (-1)) F dX7_lurk_22 (by decide) ?_
    refine z_iret F X dX7_lurk_23 ?_
    refine ⟨zfr.rf M, (if_neg ?_).symm⟩
    first | exact fun q => h_11 q.1 | exact fun q => q.2 h_19
  · replace h_11 := bI_1.mp h_11
    try simp only [f3] at h_11
    refine z_iload_n F dX7_lurk_14 rfl ?_
    refine z_iconst (v := 1) F dX7_lurk_15 (by decide) ?_
    refine z_callSi F (c_X7_isNot J) zm_X7_isNot zst_X7_isNot ml_X7_40 rfl rfl (Nat.le_of_ble_eq_true rfl) dX7_lurk_16 (by omega) (fun r_16 M_16 h_16 => ?_)
    obtain ⟨e_16, rfl⟩ := h_16
    replace e_16 := Eq.symm e_16
    subst e_16
    refine z_if_eq (tgt := 24) F dX7_lurk_19 (by decide) (fun h_19 => ?_) (fun h_19 => ?_)
    · replace h_19 := bI_0.mp h_19
      try simp only [f3] at h_19
      refine z_aload_n F dX7_lurk_24 rfl ?_
      refine z_iload_n F dX7_lurk_25 rfl ?_
      refine z_callVi F (c_X7_isHad J hk ok.2.1 (by have := ok.2.2.1; omega)) zm_X7_isHad zv_X7_isHad ml_X7_98 (by with_reducible assumption) (by decide) rfl rfl rfl (Nat.le_of_ble_eq_true rfl) dX7_lurk_26 (by omega) (fun r_26 M_26 h_26 => ?_)
      obtain ⟨e_26, rfl⟩ := h_26
      replace e_26 := Eq.symm e_26
      subst e_26
      refine z_if_ne (tgt := 35) F dX7_lurk_29 (by decide) (fun h_29 => ?_) (fun h_29 => ?_)
      · replace h_29 := bI_1.mp h_29
        try simp only [f3] at h_29
        refine z_aload_n F dX7_lurk_35 rfl ?_
        refine zg_X7_foresight F (by with_reducible assumption) fl_X7_29 dX7_lurk_36 (fun hk_36 => ?_)
        refine z_iload_n F dX7_lurk_39 rfl ?_
        refine z_aload_n F dX7_lurk_40 rfl ?_
        refine zg_X7_now F (by with_reducible assumption) fl_X7_10 dX7_lurk_41 (fun hk_41 => ?_)
        refine z_callVi F (c_X0_waitFor J (by with_reducible assumption) (by with_reducible assumption) (by omega) (by omega) ok hnt h10) zm_X0_waitFor zv_X0_waitFor ml_X7_196 (by with_reducible assumption) (by decide) rfl rfl rfl (Nat.le_of_ble_eq_true rfl) dX7_lurk_44 (by omega) (fun r_44 M_44 h_44 => ?_)
        obtain ⟨f1, f2, f3⟩ := h_44
        replace f2 : r_44 = (wtS M (o + 1) np a nt x (M.1 (o + 87) 4)).1 := f2
        replace f3 : M_44.1 (o + 87) 4 = (wtS M (o + 1) np a nt x (M.1 (o + 87) 4)).2 := f3
        subst f2
        refine z_istore_n (lv' := [_, _, _, _]) F dX7_lurk_47 (by decide) rfl rfl ?_
        refine z_iload_n F dX7_lurk_48 rfl ?_
        refine z_bipush (v := (-4)) F dX7_lurk_49 (by decide) ?_
        refine z_ic_ne (tgt := 57) F dX7_lurk_51 (by decide) (fun h_51 => ?_) (fun h_51 => ?_)
        · try simp only [f3] at h_51
          refine z_iload_n F dX7_lurk_57 rfl ?_
          refine z_if_ne (tgt := 65) F dX7_lurk_58 (by decide) (fun h_58 => ?_) (fun h_58 => ?_)
          · try simp only [f3] at h_58
            refine z_aload_n F dX7_lurk_65 rfl ?_
            refine zg_X7_foresight F (by with_reducible assumption) fl_X7_29 dX7_lurk_66 (fun hk_66 => ?_)
            refine zg_X0_milestone F (by with_reducible assumption) fl_X7_200 dX7_lurk_69 ?_
            try simp only [f3]
            refine z_iret F X dX7_lurk_72 ?_
            refine ⟨f1, ?_⟩
            rw [lrkS, if_pos ⟨h_11, h_19⟩, if_neg h_29, if_neg h_51, if_neg h_58]
          · try simp only [f3] at h_58
            refine z_iload_n F dX7_lurk_61 rfl ?_
            refine z_goto (tgt := 72) F dX7_lurk_62 (by decide) ?_
            refine z_iret F X dX7_lurk_72 ?_
            refine ⟨f1, ?_⟩
            rw [lrkS, if_pos ⟨h_11, h_19⟩, if_neg h_29, if_neg h_51, if_pos h_58]
        · try simp only [f3] at h_51
          refine z_bipush (v := (-4)) F dX7_lurk_54 (by decide) ?_
          refine z_iret F X dX7_lurk_56 ?_
          refine ⟨f1, ?_⟩
          rw [lrkS, if_pos ⟨h_11, h_19⟩, if_neg h_29, if_pos h_51]
      · replace h_29 := bI_0.mp h_29
        try simp only [f3] at h_29
        refine z_bipush (v := (-2)) F dX7_lurk_32 (by decide) ?_
        refine z_iret F X dX7_lurk_34 ?_
        refine ⟨zfr.rf M, ?_⟩
        rw [lrkS, if_pos ⟨h_11, h_19⟩, if_pos (Decidable.not_not.mp h_29)]
    · replace h_19 := bI_1.mp h_19
      try simp only [f3] at h_19
      refine z_iconst (v := (-1)) F dX7_lurk_22 (by decide) ?_
      refine z_iret F X dX7_lurk_23 ?_
      refine ⟨zfr.rf M, (if_neg ?_).symm⟩
      first | exact fun q => h_11 q.1 | exact fun q => q.2 h_19
def stdS (M : zM) (n np a : Nat) (p : Nat) (m0 : Int32) : Int32 × Int32 := standL (standW (M.1 (n + 1)) (M.1 (n + 1 + 1)) (M.1 (n + 1 + 12)) np a (M.1 (n + 15)) p) (12 - a) a (-1, m0)
theorem c_X7_stand {l : Launch} {w : zE} (J : zJ w) {M : zM} {o np a : Nat} {x k : Int32} (hk : zk o = 7) (ho : o = 0) (ok : nowOK M (o + 1) np a) : zCi l w yX7_stand cX7_stand 4 (some .int) 6 [.ref (w.2.2 o), .int x, .int k] M (fun r M2 => zfr M M2 ∧ r = if (0 ≤ x ∧ x < M.1 (o + 1 + 1) 1) ∧ ¬ (k < 0 ∨ 1 < k) then (if 12 ≤ M.1 (o + 1 + 15) 3 then -2 else if k = 0 then (stdS M (o + 1) np a x.toNatClampNeg (M.1 (o + 87) 4)).2 else (stdS M (o + 1) np a x.toNatClampNeg (M.1 (o + 87) 4)).1) else -1) := by
  refine zCi_of J zm_X7_stand [some (.ref (w.2.2 o)), some (.int x), some (.int k), none] (Nat.le_of_ble_eq_true rfl) rfl (fun g hg F X => ?_)
  subst hg
  refine z_aload_n F dX7_stand_0 rfl ?_
  refine zg_X7_now F (by with_reducible assumption) fl_X7_10 dX7_stand_1 (fun hk_1 => ?_)
  refine zg_X6_road F (by with_reducible assumption) fl_X7_44 dX7_stand_4 (fun hk_4 => ?_)
  refine z_iload_n F dX7_stand_7 rfl ?_
  refine z_callVi F (c_X1_isPerson J (by with_reducible assumption)) zm_X1_isPerson zv_X1_isPerson ml_X7_108 (by with_reducible assumption) (by decide) rfl rfl rfl (Nat.le_of_ble_eq_true rfl) dX7_stand_8 (by omega) (fun r_8 M_8 h_8 => ?_)
  obtain ⟨e_8, rfl⟩ := h_8
  replace e_8 := Eq.symm e_8
  subst e_8
  refine z_if_eq (tgt := 22) F dX7_stand_11 (by decide) (fun h_11 => ?_) (fun h_11 => ?_)
  · replace h_11 := bI_0.mp h_11
    try simp only [f3] at h_11
    refine z_iconst (v := (-1)) F dX7_stand_22 (by decide) ?_
    refine z_iret F X dX7_stand_23 ?_
    refine ⟨zfr.rf M, (if_neg ?_).symm⟩
    first | exact fun q => h_11 q.1 | exact fun q => q.2 h_19
  · replace h_11 := bI_1.mp h_11
    try simp only [f3] at h_11
    refine z_iload_n F dX7_stand_14 rfl ?_
    refine z_iconst (v := 1) F dX7_stand_15 (by decide) ?_
    refine z_callSi F (c_X7_isNot J) zm_X7_isNot zst_X7_isNot ml_X7_40 rfl rfl (Nat.le_of_ble_eq_true rfl) dX7_stand_16 (by omega) (fun r_16 M_16 h_16 => ?_)
    obtain ⟨e_16, rfl⟩ := h_16
    replace e_16 := Eq.symm e_16
    subst e_16
    refine z_if_eq (tgt := 24) F dX7_stand_19 (by decide) (fun h_19 => ?_) (fun h_19 => ?_)
    · replace h_19 := bI_0.mp h_19
      try simp only [f3] at h_19
      refine z_aload_n F dX7_stand_24 rfl ?_
      refine zg_X7_now F (by with_reducible assumption) fl_X7_10 dX7_stand_25 (fun hk_25 => ?_)
      refine zg_X6_trip F (by with_reducible assumption) fl_X7_83 dX7_stand_28 (fun hk_28 => ?_)
      refine zg_X5_ahead F (by with_reducible assumption) fl_X7_130 dX7_stand_31 ?_
      try simp only [f3]
      refine z_bipush (v := 12) F dX7_stand_34 (by decide) ?_
      refine z_ic_lt (tgt := 42) F dX7_stand_36 (by decide) (fun h_36 => ?_) (fun h_36 => ?_)
      · try simp only [f3] at h_36
        obtain ⟨p, hp1, hp2⟩ : ∃ p, p < np ∧ x = nI p := by
          obtain ⟨p, hp1, hp2⟩ := nI_of (Int32.not_lt.mpr h_11.1)
          refine ⟨p, ?_, hp2⟩
          have q := h_11.2
          rw [ok.2.1, hp2] at q
          exact (nI_ltI hp1 (by have := ok.2.2.1; omega)).mp q
        subst hp2
        have hpc : (nI p).toNatClampNeg = p := nI_clamp (by have := ok.2.2.1; omega)
        refine z_aload_n F dX7_stand_42 rfl ?_
        refine zg_X7_foresight F (by with_reducible assumption) fl_X7_29 dX7_stand_43 (fun hk_43 => ?_)
        refine z_iload_n F dX7_stand_46 rfl ?_
        refine z_aload_n F dX7_stand_47 rfl ?_
        refine zg_X7_now F (by with_reducible assumption) fl_X7_10 dX7_stand_48 (fun hk_48 => ?_)
        refine z_callVi F (c_X0_mostWorthOf J (by with_reducible assumption) (by with_reducible assumption) (by omega) (by omega) ok hp1) zm_X0_mostWorthOf zv_X0_mostWorthOf ml_X7_203 (by with_reducible assumption) (by decide) rfl rfl rfl (Nat.le_of_ble_eq_true rfl) dX7_stand_51 (by omega) (fun r_51 M_51 h_51 => ?_)
        obtain ⟨f1, f2, f3⟩ := h_51
        replace f2 : r_51 = (stdS M (o + 1) np a p (M.1 (o + 87) 4)).1 := f2
        replace f3 : M_51.1 (o + 87) 4 = (stdS M (o + 1) np a p (M.1 (o + 87) 4)).2 := f3
        subst f2
        refine z_istore_n (lv' := [_, _, _, _]) F dX7_stand_54 (by decide) rfl rfl ?_
        refine z_iload_n F dX7_stand_55 rfl ?_
        refine z_if_ne (tgt := 69) F dX7_stand_56 (by decide) (fun h_56 => ?_) (fun h_56 => ?_)
        · try simp only [f3] at h_56
          refine z_iload_n F dX7_stand_69 rfl ?_
          refine z_iret F X dX7_stand_70 ?_
          exact ⟨f1, by rw [if_pos ⟨h_11, h_19⟩, if_neg (nle h_36), if_neg h_56, hpc]⟩
        · try simp only [f3] at h_56
          refine z_aload_n F dX7_stand_59 rfl ?_
          refine zg_X7_foresight F (by with_reducible assumption) fl_X7_29 dX7_stand_60 (fun hk_60 => ?_)
          refine zg_X0_milestone F (by with_reducible assumption) fl_X7_200 dX7_stand_63 ?_
          try simp only [f3]
          refine z_goto (tgt := 70) F dX7_stand_66 (by decide) ?_
          refine z_iret F X dX7_stand_70 ?_
          exact ⟨f1, by rw [if_pos ⟨h_11, h_19⟩, if_neg (nle h_36), if_pos h_56, hpc]⟩
      · try simp only [f3] at h_36
        refine z_bipush (v := (-2)) F dX7_stand_39 (by decide) ?_
        refine z_iret F X dX7_stand_41 ?_
        exact ⟨zfr.rf M, by rw [if_pos ⟨h_11, h_19⟩, if_pos h_36]⟩
    · replace h_19 := bI_1.mp h_19
      try simp only [f3] at h_19
      refine z_iconst (v := (-1)) F dX7_stand_22 (by decide) ?_
      refine z_iret F X dX7_stand_23 ?_
      refine ⟨zfr.rf M, (if_neg ?_).symm⟩
      first | exact fun q => h_11 q.1 | exact fun q => q.2 h_19
theorem c_X7_sister {l : Launch} {w : zE} (J : zJ w) {M : zM} {o np a : Nat} {x k : Int32} (hk : zk o = 7) (ho : o = 0) (ok : nowOK M (o + 1) np a) : zCi l w yX7_sister cX7_sister 3 (some .int) 6 [.ref (w.2.2 o), .int x, .int k] M (fun r M2 => zfr M M2 ∧ r = if (0 ≤ x ∧ x < M.1 (o + 1 + 1) 0) ∧ ¬ (k < 0 ∨ 1 < k) then (if whoF (hmF M (o + 1) np a).1 np x = -4 then (if k = 0 then worthO (M.1 (o + 1 + 1 + 1)) (M.1 (o + 1 + 1) 0) x else 0) else -2) else -1) := by
  refine zCi_of J zm_X7_sister [some (.ref (w.2.2 o)), some (.int x), some (.int k)] (Nat.le_of_ble_eq_true rfl) rfl (fun g hg F X => ?_)
  subst hg
  refine z_aload_n F dX7_sister_0 rfl ?_
  refine zg_X7_now F (by with_reducible assumption) fl_X7_10 dX7_sister_1 (fun hk_1 => ?_)
  refine zg_X6_road F (by with_reducible assumption) fl_X7_44 dX7_sister_4 (fun hk_4 => ?_)
  refine z_iload_n F dX7_sister_7 rfl ?_
  refine z_callVi F (c_X1_isThing J (by with_reducible assumption)) zm_X1_isThing zv_X1_isThing ml_X7_61 (by with_reducible assumption) (by decide) rfl rfl rfl (Nat.le_of_ble_eq_true rfl) dX7_sister_8 (by omega) (fun r_8 M_8 h_8 => ?_)
  obtain ⟨e_8, rfl⟩ := h_8
  replace e_8 := Eq.symm e_8
  subst e_8
  refine z_if_eq (tgt := 22) F dX7_sister_11 (by decide) (fun h_11 => ?_) (fun h_11 => ?_)
  · replace h_11 := bI_0.mp h_11
    refine z_iconst (v := (-1)) F dX7_sister_22 (by decide) ?_
    refine z_iret F X dX7_sister_23 ?_
    refine ⟨zfr.rf M, (if_neg ?_).symm⟩
    first | exact fun q => h_11 q.1 | exact fun q => q.2 h_19
  · replace h_11 := bI_1.mp h_11
    refine z_iload_n F dX7_sister_14 rfl ?_
    refine z_iconst (v := 1) F dX7_sister_15 (by decide) ?_
    refine z_callSi F (c_X7_isNot J) zm_X7_isNot zst_X7_isNot ml_X7_40 rfl rfl (Nat.le_of_ble_eq_true rfl) dX7_sister_16 (by omega) (fun r_16 M_16 h_16 => ?_)
    obtain ⟨e_16, rfl⟩ := h_16
    replace e_16 := Eq.symm e_16
    subst e_16
    refine z_if_eq (tgt := 24) F dX7_sister_19 (by decide) (fun h_19 => ?_) (fun h_19 => ?_)
    · replace h_19 := bI_0.mp h_19
      refine z_aload_n F dX7_sister_24 rfl ?_
      refine zg_X7_now F (by with_reducible assumption) fl_X7_10 dX7_sister_25 (fun hk_25 => ?_)
      refine zg_X6_road F (by with_reducible assumption) fl_X7_44 dX7_sister_28 (fun hk_28 => ?_)
      refine z_iload_n F dX7_sister_31 rfl ?_
      refine z_aload_n F dX7_sister_32 rfl ?_
      refine zg_X7_foresight F (by with_reducible assumption) fl_X7_29 dX7_sister_33 (fun hk_33 => ?_)
      refine z_aload_n F dX7_sister_36 rfl ?_
      refine zg_X7_now F (by with_reducible assumption) fl_X7_10 dX7_sister_37 (fun hk_37 => ?_)
      refine z_callVr F (c_X0_endOf J (by with_reducible assumption) (by with_reducible assumption) (by omega) (by omega) ok) zm_X0_endOf zv_X0_endOf ml_X7_185 (by with_reducible assumption) (by decide) rfl rfl rfl (Nat.le_of_ble_eq_true rfl) dX7_sister_40 (by omega) (fun r_40 M_40 h_40 => ?_)
      obtain ⟨rfl, f1, f2, f3⟩ := h_40
      obtain ⟨_, k15, _⟩ := zkf0 (o + 87) (zk_i hk_33 (by decide)) hk_33
      have e1 := f1.2 (o + 1 + 1) (by omega)
      have e2 := f1.2 (o + 1 + 1 + 1) (by omega)
      refine z_callVi F (c_X1_whoHas J (by with_reducible assumption) (by with_reducible assumption) (np := np) (by rw [e1]; exact ok.2.1) (by have := ok.2.2.1; omega)) zm_X1_whoHas zv_X1_whoHas ml_X7_87 (by with_reducible assumption) (by decide) rfl rfl rfl (Nat.le_of_ble_eq_true rfl) dX7_sister_43 (by omega) (fun r_43 M_43 h_43 => ?_)
      obtain ⟨e_43, rfl⟩ := h_43
      replace e_43 := Eq.symm e_43
      subst e_43
      refine z_bipush (v := (-4)) F dX7_sister_46 (by decide) ?_
      refine z_ic_eq (tgt := 54) F dX7_sister_48 (by decide) (fun h_48 => ?_) (fun h_48 => ?_)
      · refine z_iload_n F dX7_sister_54 rfl ?_
        refine z_if_ne (tgt := 72) F dX7_sister_55 (by decide) (fun h_55 => ?_) (fun h_55 => ?_)
        · refine z_iconst (v := 0) F dX7_sister_72 (by decide) ?_
          refine z_iret F X dX7_sister_73 ?_
          rw [f2] at h_48
          exact ⟨f1, by rw [if_pos ⟨h_11, h_19⟩, if_pos h_48, if_neg h_55]⟩
        · refine z_aload_n F dX7_sister_58 rfl ?_
          refine zg_X7_now F (by with_reducible assumption) fl_X7_10 dX7_sister_59 (fun hk_59 => ?_)
          refine zg_X6_road F (by with_reducible assumption) fl_X7_44 dX7_sister_62 (fun hk_62 => ?_)
          refine z_iload_n F dX7_sister_65 rfl ?_
          refine z_callVi F (c_X1_worthOf J (by with_reducible assumption) (by rw [e1]; exact ok.1)) zm_X1_worthOf zv_X1_worthOf ml_X7_192 (by with_reducible assumption) (by decide) rfl rfl rfl (Nat.le_of_ble_eq_true rfl) dX7_sister_66 (by omega) (fun r_66 M_66 h_66 => ?_)
          obtain ⟨e_66, rfl⟩ := h_66
          replace e_66 := Eq.symm e_66
          subst e_66
          refine z_goto (tgt := 73) F dX7_sister_69 (by decide) ?_
          refine z_iret F X dX7_sister_73 ?_
          rw [f2] at h_48
          exact ⟨f1, by rw [if_pos ⟨h_11, h_19⟩, if_pos h_48, if_pos h_55, e1, e2]⟩
      · refine z_bipush (v := (-2)) F dX7_sister_51 (by decide) ?_
        refine z_iret F X dX7_sister_53 ?_
        rw [f2] at h_48
        exact ⟨f1, by rw [if_pos ⟨h_11, h_19⟩, if_neg h_48]⟩
    · replace h_19 := bI_1.mp h_19
      refine z_iconst (v := (-1)) F dX7_sister_22 (by decide) ?_
      refine z_iret F X dX7_sister_23 ?_
      refine ⟨zfr.rf M, (if_neg ?_).symm⟩
      first | exact fun q => h_11 q.1 | exact fun q => q.2 h_19
theorem c_X7_first {l : Launch} {w : zE} (J : zJ w) {M : zM} {o np a nt : Nat} {x : Int32} (hk : zk o = 7) (ho : o = 0) (ok : nowOK M (o + 1) np a) (hnt : M.1 (o + 1 + 1) 0 = nI nt) (h10 : nt ≤ 10) : zCi l w yX7_first cX7_first 2 (some .int) 6 [.ref (w.2.2 o), .int x] M (fun r M2 => zfr M M2 ∧ r = if 0 ≤ x ∧ x < M.1 (o + 1 + 1) 0 then firstL (fun k => whoF (M.1 (o + 1 + 15)) np (nI k)) (firstQ (M.1 (o + 1 + 1)) (M.1 (o + 1 + 1 + 1)) (M.1 (o + 1 + 1 + 12)) np a (M.1 (o + 1 + 15))) x nt 0 0 else -1) := by
  refine zCi_of J zm_X7_first [some (.ref (w.2.2 o)), some (.int x)] (Nat.le_of_ble_eq_true rfl) rfl (fun g hg F X => ?_)
  subst hg
  refine z_aload_n F dX7_first_0 rfl ?_
  refine zg_X7_now F (by with_reducible assumption) fl_X7_10 dX7_first_1 (fun hk_1 => ?_)
  refine zg_X6_road F (by with_reducible assumption) fl_X7_44 dX7_first_4 (fun hk_4 => ?_)
  refine z_iload_n F dX7_first_7 rfl ?_
  refine z_callVi F (c_X1_isThing J (by with_reducible assumption)) zm_X1_isThing zv_X1_isThing ml_X7_61 (by with_reducible assumption) (by decide) rfl rfl rfl (Nat.le_of_ble_eq_true rfl) dX7_first_8 (by omega) (fun r_8 M_8 h_8 => ?_)
  obtain ⟨e_8, rfl⟩ := h_8
  replace e_8 := Eq.symm e_8
  subst e_8
  refine z_if_eq (tgt := 29) F dX7_first_11 (by decide) (fun h_11 => ?_) (fun h_11 => ?_)
  · replace h_11 := bI_0.mp h_11
    refine z_iconst (v := (-1)) F dX7_first_29 (by decide) ?_
    refine z_iret F X dX7_first_30 ?_
    exact ⟨zfr.rf M, (if_neg h_11).symm⟩
  · replace h_11 := bI_1.mp h_11
    refine z_aload_n F dX7_first_14 rfl ?_
    refine zg_X7_foresight F (by with_reducible assumption) fl_X7_29 dX7_first_15 (fun hk_15 => ?_)
    refine z_iload_n F dX7_first_18 rfl ?_
    refine z_aload_n F dX7_first_19 rfl ?_
    refine zg_X7_now F (by with_reducible assumption) fl_X7_10 dX7_first_20 (fun hk_20 => ?_)
    refine z_callVi F (c_X0_firstsFor J (by with_reducible assumption) (by with_reducible assumption) (by omega) (by omega) ok hnt h10) zm_X0_firstsFor zv_X0_firstsFor ml_X7_213 (by with_reducible assumption) (by decide) rfl rfl rfl (Nat.le_of_ble_eq_true rfl) dX7_first_23 (by omega) (fun r_23 M_23 h_23 => ?_)
    obtain ⟨f1, f2⟩ := h_23
    refine z_goto (tgt := 30) F dX7_first_26 (by decide) ?_
    refine z_iret F X dX7_first_30 ?_
    exact ⟨f1, by rw [f2, if_pos h_11]⟩
theorem c_X7_cheated {l : Launch} {w : zE} (J : zJ w) {M : zM} {o np a : Nat} {v : Int32} (hk : zk o = 7) (ho : o = 0) (ok : nowOK M (o + 1) np a) : zCi l w yX7_cheated cX7_cheated 2 (some .int) 6 [.ref (w.2.2 o), .int v] M (fun r M2 => zfr M M2 ∧ r = if v < -99 ∨ 99 < v then -1 else (heedL (heedW (M.1 (o + 1 + 1)) (M.1 (o + 1 + 1 + 1)) (M.1 (o + 1 + 1 + 12)) np a (M.1 (o + 1 + 15))) v 100 0 (-4, 0)).1) := by
  refine zCi_of J zm_X7_cheated [some (.ref (w.2.2 o)), some (.int v)] (Nat.le_of_ble_eq_true rfl) rfl (fun g hg F X => ?_)
  subst hg
  refine z_iload_n F dX7_cheated_0 rfl ?_
  refine z_bipush (v := (-99)) F dX7_cheated_1 (by decide) ?_
  refine z_ic_lt (tgt := 12) F dX7_cheated_3 (by decide) (fun h_3 => ?_) (fun h_3 => ?_)
  · refine z_iconst (v := (-1)) F dX7_cheated_12 (by decide) ?_
    refine z_iret F X dX7_cheated_13 ?_
    refine ⟨zfr.rf M, (if_pos ?_).symm⟩
    first | exact Or.inl h_3 | exact Or.inr h_9
  · refine z_iload_n F dX7_cheated_6 rfl ?_
    refine z_bipush (v := 99) F dX7_cheated_7 (by decide) ?_
    refine z_ic_le (tgt := 14) F dX7_cheated_9 (by decide) (fun h_9 => ?_) (fun h_9 => ?_)
    · refine z_aload_n F dX7_cheated_14 rfl ?_
      refine zg_X7_foresight F (by with_reducible assumption) fl_X7_29 dX7_cheated_15 (fun hk_15 => ?_)
      refine z_iload_n F dX7_cheated_18 rfl ?_
      refine z_aload_n F dX7_cheated_19 rfl ?_
      refine zg_X7_now F (by with_reducible assumption) fl_X7_10 dX7_cheated_20 (fun hk_20 => ?_)
      refine z_callVi F (c_X0_heedFor J (by with_reducible assumption) (by with_reducible assumption) (by omega) (by omega) ok) zm_X0_heedFor zv_X0_heedFor ml_X7_216 (by with_reducible assumption) (by decide) rfl rfl rfl (Nat.le_of_ble_eq_true rfl) dX7_cheated_23 (by omega) (fun r_23 M_23 h_23 => ?_)
      obtain ⟨f1, f2⟩ := h_23
      refine z_iret F X dX7_cheated_26 ?_
      exact ⟨f1, by rw [f2, if_neg (fun q => q.elim (nlt h_3) (nlt h_9))]⟩
    · refine z_iconst (v := (-1)) F dX7_cheated_12 (by decide) ?_
      refine z_iret F X dX7_cheated_13 ?_
      refine ⟨zfr.rf M, (if_pos ?_).symm⟩
      first | exact Or.inl h_3 | exact Or.inr h_9
theorem c_X7_image {l : Launch} {w : zE} (J : zJ w) {M : zM} {o k : Nat} (hk : zk o = 7) (ho : o = 0) (hp : pmF (M.1 (o + 1 + 17))) (hp2 : pmF (M.1 (o + 35 + 17))) (hn : M.1 (o + 1) 3 = nI k) (h8 : k ≤ 8) : zCi l w yX7_image cX7_image 1 (some .int) 3 [.ref (w.2.2 o)] M (fun r M2 => r = 1 ∧ M2 = zs (cpP (wcF M (o + 35) (o + 1)) (o + 35) (o + 1) k) o 2 1) := by
  refine zCi_of J zm_X7_image [some (.ref (w.2.2 o))] (Nat.le_of_ble_eq_true rfl) rfl (fun g hg F X => ?_)
  subst hg
  refine z_aload_n F dX7_image_0 rfl ?_
  refine zg_X7_kept F (by with_reducible assumption) fl_X7_16 dX7_image_1 (fun hk_1 => ?_)
  refine z_aload_n F dX7_image_4 rfl ?_
  refine zg_X7_now F (by with_reducible assumption) fl_X7_10 dX7_image_5 (fun hk_5 => ?_)
  refine z_callVv F (c_X6_setFrom J (by with_reducible assumption) (by with_reducible assumption) (by omega) hp2 hp hn h8) zm_X6_setFrom zv_X6_setFrom ml_X7_222 (by with_reducible assumption) (by decide) rfl rfl rfl (Nat.le_of_ble_eq_true rfl) dX7_image_8 (by omega) (fun M_8 h_8 => ?_)
  replace h_8 := Eq.symm h_8
  subst h_8
  refine z_aload_n F dX7_image_11 rfl ?_
  refine z_iconst (v := 1) F dX7_image_12 (by decide) ?_
  refine zp_X7_isKept F (by with_reducible assumption) fl_X7_225 (by decide) (by decide) dX7_image_13 ?_
  refine z_iconst (v := 1) F dX7_image_16 (by decide) ?_
  refine z_iret F X dX7_image_17 ?_
  exact ⟨rfl, rfl⟩
theorem c_X7_restore {l : Launch} {w : zE} (J : zJ w) {M : zM} {o k : Nat} (hk : zk o = 7) (ho : o = 0) (hp : pmF (M.1 (o + 1 + 17))) (hp2 : pmF (M.1 (o + 35 + 17))) (hn : ¬ M.1 o 2 = 0 → M.1 (o + 35) 3 = nI k) (h8 : k ≤ 8) : zCi l w yX7_restore cX7_restore 1 (some .int) 3 [.ref (w.2.2 o)] M (fun r M2 => (M.1 o 2 = 0 ∧ r = -4 ∧ M2 = M) ∨ (¬ M.1 o 2 = 0 ∧ r = 1 ∧ M2 = cpP (wcF M (o + 1) (o + 35)) (o + 1) (o + 35) k)) := by
  refine zCi_of J zm_X7_restore [some (.ref (w.2.2 o))] (Nat.le_of_ble_eq_true rfl) rfl (fun g hg F X => ?_)
  subst hg
  refine z_aload_n F dX7_restore_0 rfl ?_
  refine zg_X7_isKept F (by with_reducible assumption) fl_X7_225 dX7_restore_1 ?_
  refine z_if_ne (tgt := 10) F dX7_restore_4 (by decide) (fun h_4 => ?_) (fun h_4 => ?_)
  · refine z_aload_n F dX7_restore_10 rfl ?_
    refine zg_X7_now F (by with_reducible assumption) fl_X7_10 dX7_restore_11 (fun hk_11 => ?_)
    refine z_aload_n F dX7_restore_14 rfl ?_
    refine zg_X7_kept F (by with_reducible assumption) fl_X7_16 dX7_restore_15 (fun hk_15 => ?_)
    refine z_callVv F (c_X6_setFrom J (by with_reducible assumption) (by with_reducible assumption) (by omega) hp hp2 (hn h_4) h8) zm_X6_setFrom zv_X6_setFrom ml_X7_222 (by with_reducible assumption) (by decide) rfl rfl rfl (Nat.le_of_ble_eq_true rfl) dX7_restore_18 (by omega) (fun M_18 h_18 => ?_)
    replace h_18 := Eq.symm h_18
    subst h_18
    refine z_iconst (v := 1) F dX7_restore_21 (by decide) ?_
    refine z_iret F X dX7_restore_22 ?_
    exact Or.inr ⟨h_4, rfl, rfl⟩
  · refine z_bipush (v := (-4)) F dX7_restore_7 (by decide) ?_
    refine z_iret F X dX7_restore_9 ?_
    exact Or.inl ⟨h_4, rfl, rfl⟩
end
section
/-- they meet: how it ends -/
def mtS (th : zF1) (hd : Int32) (T U : zF1) : Int32 × zF1 × zF1 := meetL th hd 200 1 (T, U, 0)
theorem mtS_eq (th : zF1) (hd : Int32) (T U : zF1) : meetL th hd 200 1 (T, U, 0) = mtS th hd T U := by unfold mtS; with_reducible exact Eq.refl _
theorem d_X0_turnsWith {l : Launch} {w : zE} (J : zJ w) {M : zM} {f n : Nat} {x : Int32} (hk : zk f = 0) (hn : zk n = 6) (hf : f = 87) (hn1 : n = 1) (hx : 0 ≤ x ∧ x < 10) (hh : 0 ≤ M.1 (n + 15) 0 ∧ M.1 (n + 15) 0 < 10) : zCi l w yX0_turnsWith cX0_turnsWith 7 (some .int) 3 [.ref (w.2.2 f), .int x, .ref (w.2.2 n)] M (fun r M2 => zfr M M2 ∧ ∃ (U : zF1) (R : Int32 × zF1 × zF1), U 0 = x ∧ U 1 = 0 ∧ U 2 = 0 ∧ R = mtS (M.1 (n + 1 + 1)) (M.1 (n + 1) 2) (M.1 (n + 15)) U ∧ r = R.1 ∧ M2.1 (f + 15) = R.2.1 ∧ M2.1 (f + 17) = R.2.2) :=
  zCi_mono (fun r M2 ⟨h1, U, u0, u1, u2, h2, h3, h4⟩ => by
    rw [mtS_eq] at h2 h3 h4
    exact ⟨M2, zEq.rf _, h1, U, _, u0, u1, u2, Eq.refl _, h2, h3, h4⟩) (c_X0_turnsWith (np := 0) (a := 0) J hk hn hf hn1 hx hh)
theorem c_X7_meet {l : Launch} {w : zE} (J : zJ w) {M : zM} {o np : Nat} {x k : Int32} (hk : zk o = 7) (ho : o = 0) (hnt : M.1 (o + 1 + 1) 0 ≤ 10) (hnp : M.1 (o + 1 + 1) 1 = nI np) (h8 : np ≤ 8) (hh : M.1 (o + 1 + 15) 0 = -4 ∨ 0 ≤ M.1 (o + 1 + 15) 0 ∧ M.1 (o + 1 + 15) 0 < 10) : zCi l w yX7_meet cX7_meet 4 (some .int) 4 [.ref (w.2.2 o), .int x, .int k] M (fun r M2 => zfr M M2 ∧ ∃ (U : zF1) (R : Int32 × zF1 × zF1), U 0 = x ∧ U 1 = 0 ∧ U 2 = 0 ∧ R = mtS (M.1 (o + 1 + 1 + 1)) (M.1 (o + 1 + 1) 2) (M.1 (o + 1 + 15)) U ∧ r = if (0 ≤ x ∧ x < M.1 (o + 1 + 1) 0) ∧ ¬ (k < 0 ∨ 2 < k) then (if ¬ whoF (M.1 (o + 1 + 15)) np x = -4 ∨ M.1 (o + 1 + 15) 0 = -4 then -2 else if R.1 = -4 ∨ k = 0 then R.1 else if k = 1 then R.2.1 0 else R.2.2 0) else -1) := by
  have hU0 : ∃ U : zF1, U 0 = x ∧ U 1 = 0 ∧ U 2 = 0 := ⟨fun q => if q = 0 then x else 0, Eq.refl _, Eq.refl _, Eq.refl _⟩
  obtain ⟨U0, u0, u1, u2⟩ := hU0
  refine zCi_of J zm_X7_meet [some (.ref (w.2.2 o)), some (.int x), some (.int k), none] (Nat.le_of_ble_eq_true rfl) rfl (fun g hg F X => ?_)
  subst hg
  refine z_aload_n F dX7_meet_0 rfl ?_
  refine zg_X7_now F (by with_reducible assumption) fl_X7_10 dX7_meet_1 (fun hk_1 => ?_)
  refine zg_X6_road F (by with_reducible assumption) fl_X7_44 dX7_meet_4 (fun hk_4 => ?_)
  refine z_iload_n F dX7_meet_7 rfl ?_
  refine z_callVi F (c_X1_isThing J (by with_reducible assumption)) zm_X1_isThing zv_X1_isThing ml_X7_61 (by with_reducible assumption) (by decide) rfl rfl rfl (Nat.le_of_ble_eq_true rfl) dX7_meet_8 (by omega) (fun r_8 M_8 h_8 => ?_)
  obtain ⟨e_8, rfl⟩ := h_8
  replace e_8 := Eq.symm e_8
  subst e_8
  refine z_if_eq (tgt := 22) F dX7_meet_11 (by decide) (fun h_11 => ?_) (fun h_11 => ?_)
  · replace h_11 := bI_0.mp h_11
    try simp only [f3, f4] at h_11
    refine z_iconst (v := (-1)) F dX7_meet_22 (by decide) ?_
    refine z_iret F X dX7_meet_23 ?_
    refine ⟨zfr.rf M, U0, _, u0, u1, u2, Eq.refl _, (if_neg ?_).symm⟩
    first | exact fun q => h_11 q.1 | exact fun q => q.2 h_19
  · replace h_11 := bI_1.mp h_11
    try simp only [f3, f4] at h_11
    refine z_iload_n F dX7_meet_14 rfl ?_
    refine z_iconst (v := 2) F dX7_meet_15 (by decide) ?_
    refine z_callSi F (c_X7_isNot J) zm_X7_isNot zst_X7_isNot ml_X7_40 rfl rfl (Nat.le_of_ble_eq_true rfl) dX7_meet_16 (by omega) (fun r_16 M_16 h_16 => ?_)
    obtain ⟨e_16, rfl⟩ := h_16
    replace e_16 := Eq.symm e_16
    subst e_16
    refine z_if_eq (tgt := 24) F dX7_meet_19 (by decide) (fun h_19 => ?_) (fun h_19 => ?_)
    · replace h_19 := bI_0.mp h_19
      try simp only [f3, f4] at h_19
      refine z_aload_n F dX7_meet_24 rfl ?_
      refine z_iload_n F dX7_meet_25 rfl ?_
      refine z_callVi F (c_X7_isHad J hk hnp (by omega)) zm_X7_isHad zv_X7_isHad ml_X7_98 (by with_reducible assumption) (by decide) rfl rfl rfl (Nat.le_of_ble_eq_true rfl) dX7_meet_26 (by omega) (fun r_26 M_26 h_26 => ?_)
      obtain ⟨e_26, rfl⟩ := h_26
      replace e_26 := Eq.symm e_26
      subst e_26
      refine z_if_ne (tgt := 47) F dX7_meet_29 (by decide) (fun h_29 => ?_) (fun h_29 => ?_)
      · replace h_29 := bI_1.mp h_29
        try simp only [f3, f4] at h_29
        refine z_bipush (v := (-2)) F dX7_meet_47 (by decide) ?_
        refine z_iret F X dX7_meet_49 ?_
        refine ⟨zfr.rf M, U0, _, u0, u1, u2, Eq.refl _, ?_⟩
        rw [if_pos ⟨h_11, h_19⟩]
        first | exact (if_pos (Or.inl h_29)).symm | exact (if_pos (Or.inr h_44)).symm
      · replace h_29 := bI_0.mp h_29
        try simp only [f3, f4] at h_29
        refine z_aload_n F dX7_meet_32 rfl ?_
        refine zg_X7_now F (by with_reducible assumption) fl_X7_10 dX7_meet_33 (fun hk_33 => ?_)
        refine zg_X6_trip F (by with_reducible assumption) fl_X7_83 dX7_meet_36 (fun hk_36 => ?_)
        refine zg_X5_his F (by with_reducible assumption) fl_X7_123 dX7_meet_39 ?_
        try simp only [f3, f4]
        refine z_bipush (v := (-4)) F dX7_meet_42 (by decide) ?_
        refine z_ic_ne (tgt := 50) F dX7_meet_44 (by decide) (fun h_44 => ?_) (fun h_44 => ?_)
        · try simp only [f3, f4] at h_44
          refine z_aload_n F dX7_meet_50 rfl ?_
          refine zg_X7_foresight F (by with_reducible assumption) fl_X7_29 dX7_meet_51 (fun hk_51 => ?_)
          refine z_iload_n F dX7_meet_54 rfl ?_
          refine z_aload_n F dX7_meet_55 rfl ?_
          refine zg_X7_now F (by with_reducible assumption) fl_X7_10 dX7_meet_56 (fun hk_56 => ?_)
          refine z_callVi F (d_X0_turnsWith J (by with_reducible assumption) (by with_reducible assumption) (by omega) (by omega) ⟨h_11.1, Int32.lt_of_lt_of_le h_11.2 hnt⟩ (hh.resolve_left h_44)) zm_X0_turnsWith zv_X0_turnsWith ml_X7_206 (by with_reducible assumption) (by decide) rfl rfl rfl (Nat.le_of_ble_eq_true rfl) dX7_meet_59 (by omega) (fun r_59 M_59 h_59 => ?_)
          obtain ⟨f1, U, R, a0, a1, a2, f0, f2, f3, f4⟩ := h_59
          have hc : (0 ≤ x ∧ x < M.1 (o + 1 + 1) 0) ∧ ¬ (k < 0 ∨ 2 < k) := ⟨h_11, h_19⟩
          have hn : ¬ (¬ whoF (M.1 (o + 1 + 15)) np x = -4 ∨ M.1 (o + 1 + 15) 0 = -4) := fun q => q.elim h_29 h_44
          subst f2
          refine z_istore_n (lv' := [_, _, _, _]) F dX7_meet_62 (by decide) rfl rfl ?_
          refine z_iload_n F dX7_meet_63 rfl ?_
          refine z_bipush (v := (-4)) F dX7_meet_64 (by decide) ?_
          refine z_ic_eq (tgt := 73) F dX7_meet_66 (by decide) (fun h_66 => ?_) (fun h_66 => ?_)
          · try simp only [f3, f4] at h_66
            refine z_iload_n F dX7_meet_73 rfl ?_
            refine z_iret F X dX7_meet_74 ?_
            refine ⟨f1, U, R, a0, a1, a2, f0, ?_⟩
            rw [if_pos hc, if_neg hn]
            first | exact (if_pos (Or.inl h_66)).symm | exact (if_pos (Or.inr h_70)).symm
          · try simp only [f3, f4] at h_66
            refine z_iload_n F dX7_meet_69 rfl ?_
            refine z_if_ne (tgt := 75) F dX7_meet_70 (by decide) (fun h_70 => ?_) (fun h_70 => ?_)
            · try simp only [f3, f4] at h_70
              refine z_iload_n F dX7_meet_75 rfl ?_
              refine z_iconst (v := 1) F dX7_meet_76 (by decide) ?_
              refine z_ic_ne (tgt := 93) F dX7_meet_77 (by decide) (fun h_77 => ?_) (fun h_77 => ?_)
              · try simp only [f3, f4] at h_77
                refine z_aload_n F dX7_meet_93 rfl ?_
                refine zg_X7_foresight F (by with_reducible assumption) fl_X7_29 dX7_meet_94 (fun hk_94 => ?_)
                refine zg_X0_other F (by with_reducible assumption) fl_X7_210 dX7_meet_97 (fun hk_97 => ?_)
                refine zg_X5_his F (by with_reducible assumption) fl_X7_123 dX7_meet_100 ?_
                try simp only [f3, f4]
                refine z_iret F X dX7_meet_103 ?_
                refine ⟨f1, U, R, a0, a1, a2, f0, ?_⟩
                rw [if_pos hc, if_neg hn, if_neg (fun q => q.elim h_66 h_70), if_neg h_77]
              · try simp only [f3, f4] at h_77
                refine z_aload_n F dX7_meet_80 rfl ?_
                refine zg_X7_foresight F (by with_reducible assumption) fl_X7_29 dX7_meet_81 (fun hk_81 => ?_)
                refine zg_X0_trip F (by with_reducible assumption) fl_X7_209 dX7_meet_84 (fun hk_84 => ?_)
                refine zg_X5_his F (by with_reducible assumption) fl_X7_123 dX7_meet_87 ?_
                try simp only [f3, f4]
                refine z_goto (tgt := 103) F dX7_meet_90 (by decide) ?_
                refine z_iret F X dX7_meet_103 ?_
                refine ⟨f1, U, R, a0, a1, a2, f0, ?_⟩
                rw [if_pos hc, if_neg hn, if_neg (fun q => q.elim h_66 h_70), if_pos h_77]
            · try simp only [f3, f4] at h_70
              refine z_iload_n F dX7_meet_73 rfl ?_
              refine z_iret F X dX7_meet_74 ?_
              refine ⟨f1, U, R, a0, a1, a2, f0, ?_⟩
              rw [if_pos hc, if_neg hn]
              first | exact (if_pos (Or.inl h_66)).symm | exact (if_pos (Or.inr h_70)).symm
        · try simp only [f3, f4] at h_44
          refine z_bipush (v := (-2)) F dX7_meet_47 (by decide) ?_
          refine z_iret F X dX7_meet_49 ?_
          refine ⟨zfr.rf M, U0, _, u0, u1, u2, Eq.refl _, ?_⟩
          rw [if_pos ⟨h_11, h_19⟩]
          first | exact (if_pos (Or.inl h_29)).symm | exact (if_pos (Or.inr h_44)).symm
    · replace h_19 := bI_1.mp h_19
      try simp only [f3, f4] at h_19
      refine z_iconst (v := (-1)) F dX7_meet_22 (by decide) ?_
      refine z_iret F X dX7_meet_23 ?_
      refine ⟨zfr.rf M, U0, _, u0, u1, u2, Eq.refl _, (if_neg ?_).symm⟩
      first | exact fun q => h_11 q.1 | exact fun q => q.2 h_19
/-- a fraction over 2^j, shortened -/
def redL : Nat → Int32 → Int32 × Int32
  | 0, u => (u, 1)
  | j + 1, u => if u - u / 2 * 2 = 0 then redL j (u / 2) else (u, nI (2 ^ (j + 1)))
theorem pw_lt : ∀ j, j < 11 → 2 ^ j < 2 ^ 31 := by decide
theorem pw_sh : ∀ j, j < 11 → (1 : Int32) <<< (nI j &&& 31) = nI (2 ^ j) := by decide +kernel
theorem pw_dv : ∀ j, j < 11 → nI (2 ^ (j + 1)) / 2 = nI (2 ^ j) := by decide +kernel
theorem pw_gt : ∀ j, j < 11 → ¬ nI (2 ^ (j + 1)) ≤ 1 := by decide +kernel
theorem c_X7_chance {l : Launch} {w : zE} (J : zJ w) {M : zM} {o np a : Nat} {x k : Int32} (hk : zk o = 7) (ho : o = 0) (ok : nowOK M (o + 1) np a) : zCi l w yX7_chance cX7_chance 6 (some .int) 26 [.ref (w.2.2 o), .int x, .int k] M (fun r M2 => zfr M M2 ∧ r = if (¬ x = -4 ∧ ¬ (0 ≤ x ∧ x < M.1 (o + 1 + 1) 0)) ∨ (k < 0 ∨ 1 < k) then -1 else if a < 2 then -3 else if k = 0 then (redL (12 - a) (waysF (M.1 (o + 1 + 1)) (M.1 (o + 1 + 1 + 1)) (M.1 (o + 1 + 1 + 12)) np x 10 (M.1 (o + 1 + 15)))).1 else (redL (12 - a) (waysF (M.1 (o + 1 + 1)) (M.1 (o + 1 + 1 + 1)) (M.1 (o + 1 + 1 + 12)) np x 10 (M.1 (o + 1 + 15)))).2) := by
  obtain ⟨o1, o2, o3, o4, o5⟩ := id ok
  have hsub : 12 - nI a = nI (12 - a) := pk_sub (a := 12) (b := a) o5
  refine zCi_of J zm_X7_chance [some (.ref (w.2.2 o)), some (.int x), some (.int k), none, none, none] (Nat.le_of_ble_eq_true rfl) rfl (fun g hg F X => ?_)
  subst hg
  generalize hW : waysF (M.1 (o + 1 + 1)) (M.1 (o + 1 + 1 + 1)) (M.1 (o + 1 + 1 + 12)) np x 10 (M.1 (o + 1 + 15)) = W at X
  have key : ¬ ((¬ x = -4 ∧ ¬ (0 ≤ x ∧ x < M.1 (o + 1 + 1) 0)) ∨ (k < 0 ∨ 1 < k)) → ¬ a < 2 → ∀ (M' : zM) (j : Nat) (u : Int32), j < 11 → zfr M M' → redL j u = redL (12 - a) W → ZW w g 6 60 [some (.ref (w.2.2 o)), some (.int x), some (.int k), some (.int (nI (12 - a))), some (.int u), some (.int (nI (2 ^ j)))] [] M' := by
    intro hb ha M' j
    induction j with
    | zero =>
      intro u hj hf hs
      refine z_iload F dX7_chance_60 rfl ?_
      refine z_iconst (v := 1) F dX7_chance_62 (by decide) ?_
      refine z_ic_le (tgt := 88) F dX7_chance_63 (by decide) (fun h_63 => ?_) (fun h_63 => absurd h_63 (by decide))
      refine z_iload_n F dX7_chance_88 rfl ?_
      refine z_if_ne (tgt := 97) F dX7_chance_89 (by decide) (fun h_89 => ?_) (fun h_89 => ?_)
      · refine z_iload F dX7_chance_97 rfl ?_
        refine z_iret F X dX7_chance_99 ?_
        exact ⟨hf, by rw [if_neg hb, if_neg ha, if_neg h_89, ← hs]; rfl⟩
      · refine z_iload F dX7_chance_92 rfl ?_
        refine z_goto (tgt := 99) F dX7_chance_94 (by decide) ?_
        refine z_iret F X dX7_chance_99 ?_
        exact ⟨hf, by rw [if_neg hb, if_neg ha, if_pos h_89, ← hs]; rfl⟩
    | succ j ih =>
      intro u hj hf hs
      rw [redL] at hs
      refine z_iload F dX7_chance_60 rfl ?_
      refine z_iconst (v := 1) F dX7_chance_62 (by decide) ?_
      refine z_ic_le (tgt := 88) F dX7_chance_63 (by decide) (fun h_63 => absurd h_63 (pw_gt j (by omega))) (fun h_63 => ?_)
      refine z_iload F dX7_chance_66 rfl ?_
      refine z_iconst (v := 2) F dX7_chance_68 (by decide) ?_
      refine z_irem F dX7_chance_69 (by decide) ?_
      refine z_if_ne (tgt := 88) F dX7_chance_70 (by decide) (fun h_70 => ?_) (fun h_70 => ?_)
      · refine z_iload_n F dX7_chance_88 rfl ?_
        refine z_if_ne (tgt := 97) F dX7_chance_89 (by decide) (fun h_89 => ?_) (fun h_89 => ?_)
        · refine z_iload F dX7_chance_97 rfl ?_
          refine z_iret F X dX7_chance_99 ?_
          rw [if_neg h_70] at hs
          exact ⟨hf, by rw [if_neg hb, if_neg ha, if_neg h_89, ← hs]⟩
        · refine z_iload F dX7_chance_92 rfl ?_
          refine z_goto (tgt := 99) F dX7_chance_94 (by decide) ?_
          refine z_iret F X dX7_chance_99 ?_
          rw [if_neg h_70] at hs
          exact ⟨hf, by rw [if_neg hb, if_neg ha, if_pos h_89, ← hs]⟩
      · refine z_iload F dX7_chance_73 rfl ?_
        refine z_iconst (v := 2) F dX7_chance_75 (by decide) ?_
        refine z_idiv F dX7_chance_76 (by decide) ?_
        refine z_istore (lv' := [_, _, _, _, _, _]) F dX7_chance_77 (by decide) rfl rfl ?_
        refine z_iload F dX7_chance_79 rfl ?_
        refine z_iconst (v := 2) F dX7_chance_81 (by decide) ?_
        refine z_idiv F dX7_chance_82 (by decide) ?_
        refine z_istore (lv' := [_, _, _, _, _, _]) F dX7_chance_83 (by decide) rfl rfl ?_
        refine z_goto (tgt := 60) F dX7_chance_85 (by decide) ?_
        rw [pw_dv j (by omega)]
        rw [if_pos h_70] at hs
        exact ih (u / 2) (by omega) hf hs
  refine z_aload_n F dX7_chance_0 rfl ?_
  refine z_iload_n F dX7_chance_1 rfl ?_
  refine z_callVi F (c_X7_isNoThingOrNone J hk) zm_X7_isNoThingOrNone zv_X7_isNoThingOrNone ml_X7_95 (by with_reducible assumption) (by decide) rfl rfl rfl (Nat.le_of_ble_eq_true rfl) dX7_chance_2 (by omega) (fun r_2 M_2 h_2 => ?_)
  obtain ⟨e_2, rfl⟩ := h_2
  replace e_2 := Eq.symm e_2
  subst e_2
  refine z_if_ne (tgt := 16) F dX7_chance_5 (by decide) (fun h_5 => ?_) (fun h_5 => ?_)
  · replace h_5 := bI_1.mp h_5
    try simp only [o4] at h_5
    refine z_iconst (v := (-1)) F dX7_chance_16 (by decide) ?_
    refine z_iret F X dX7_chance_17 ?_
    refine ⟨zfr.rf M, (if_pos ?_).symm⟩
    first | exact Or.inl h_5 | exact Or.inr h_13
  · replace h_5 := bI_0.mp h_5
    try simp only [o4] at h_5
    refine z_iload_n F dX7_chance_8 rfl ?_
    refine z_iconst (v := 1) F dX7_chance_9 (by decide) ?_
    refine z_callSi F (c_X7_isNot J) zm_X7_isNot zst_X7_isNot ml_X7_40 rfl rfl (Nat.le_of_ble_eq_true rfl) dX7_chance_10 (by omega) (fun r_10 M_10 h_10 => ?_)
    obtain ⟨e_10, rfl⟩ := h_10
    replace e_10 := Eq.symm e_10
    subst e_10
    refine z_if_eq (tgt := 18) F dX7_chance_13 (by decide) (fun h_13 => ?_) (fun h_13 => ?_)
    · replace h_13 := bI_0.mp h_13
      try simp only [o4] at h_13
      refine z_bipush (v := 12) F dX7_chance_18 (by decide) ?_
      refine z_aload_n F dX7_chance_20 rfl ?_
      refine zg_X7_now F (by with_reducible assumption) fl_X7_10 dX7_chance_21 (fun hk_21 => ?_)
      refine zg_X6_trip F (by with_reducible assumption) fl_X7_83 dX7_chance_24 (fun hk_24 => ?_)
      refine zg_X5_ahead F (by with_reducible assumption) fl_X7_130 dX7_chance_27 ?_
      try simp only [o4]
      refine z_isub F dX7_chance_30 ?_
      rw [hsub]
      refine z_istore_n (lv' := [_, _, _, _, _, _]) F dX7_chance_31 (by decide) rfl rfl ?_
      refine z_iload_n F dX7_chance_32 rfl ?_
      refine z_bipush (v := 10) F dX7_chance_33 (by decide) ?_
      refine z_ic_le (tgt := 41) F dX7_chance_35 (by decide) (fun h_35 => ?_) (fun h_35 => ?_)
      · try simp only [o4] at h_35
        refine z_aload_n F dX7_chance_41 rfl ?_
        refine zg_X7_foresight F (by with_reducible assumption) fl_X7_29 dX7_chance_42 (fun hk_42 => ?_)
        refine z_iload_n F dX7_chance_45 rfl ?_
        refine z_aload_n F dX7_chance_46 rfl ?_
        refine zg_X7_now F (by with_reducible assumption) fl_X7_10 dX7_chance_47 (fun hk_47 => ?_)
        refine z_callVi F (c_X0_waysTo J (by with_reducible assumption) (by with_reducible assumption) (by omega) (by omega) ok) zm_X0_waysTo zv_X0_waysTo ml_X7_219 (by with_reducible assumption) (by decide) rfl rfl rfl (Nat.le_of_ble_eq_true rfl) dX7_chance_50 (by omega) (fun r_50 M_50 h_50 => ?_)
        obtain ⟨f1, f2⟩ := h_50
        rw [hW] at f2
        subst f2
        have ha : ¬ a < 2 := fun z => by
          have := (nI_leI (b := 10) (by omega) (by decide)).mp h_35
          omega
        refine z_istore (lv' := [_, _, _, _, _, _]) F dX7_chance_53 (by decide) rfl rfl ?_
        refine z_iconst (v := 1) F dX7_chance_55 (by decide) ?_
        refine z_iload_n F dX7_chance_56 rfl ?_
        refine z_ishl F dX7_chance_57 ?_
        refine z_istore (lv' := [_, _, _, _, _, _]) F dX7_chance_58 (by decide) rfl rfl ?_
        rw [pw_sh (12 - a) (by omega)]
        exact key (fun q => q.elim h_5 h_13) ha _ (12 - a) _ (by omega) f1 rfl
      · try simp only [o4] at h_35
        refine z_bipush (v := (-3)) F dX7_chance_38 (by decide) ?_
        refine z_iret F X dX7_chance_40 ?_
        have ha : a < 2 := by
          have := (nI_ltI (a := 10) (by decide) (by omega)).mp h_35
          omega
        exact ⟨zfr.rf M, by rw [if_neg (fun q => q.elim h_5 h_13), if_pos ha]⟩
    · replace h_13 := bI_1.mp h_13
      try simp only [o4] at h_13
      refine z_iconst (v := (-1)) F dX7_chance_16 (by decide) ?_
      refine z_iret F X dX7_chance_17 ?_
      refine ⟨zfr.rf M, (if_pos ?_).symm⟩
      first | exact Or.inl h_5 | exact Or.inr h_13
/-- nothing but the tape's own blocks differs -/
def ztf (M M' : zM) : Prop := M'.2 = M.2 ∧ ∀ b, (b < 69 ∨ 87 ≤ b) → M'.1 b = M.1 b
theorem c_X7_road {l : Launch} {w : zE} (J : zJ w) {M : zM} {o len : Nat} (hk : zk o = 7) (ho : o = 0) (hl : M.1 (o + 69) 1 = nI len) (h120 : len ≤ 120) (hL : ltOK (M.1 (o + 69 + 1)) len) : zCi l w yX7_road cX7_road 2 (some .int) 7 [.ref (w.2.2 o)] M (fun r M2 =>
    ((roadF (M.1 (o + 69 + 1)) len (M.1 (o + 1 + 1 + 1)) (M.1 (o + 1 + 1 + 12)) (tT0 (M.1 (o + 1 + 15)))).1 = 0 ∧ r = -20 - nI (roadF (M.1 (o + 69 + 1)) len (M.1 (o + 1 + 1 + 1)) (M.1 (o + 1 + 1 + 12)) (tT0 (M.1 (o + 1 + 15)))).2.1 ∧ ztf M M2 ∧ M2.1 (o + 69) 1 = 0)
    ∨ (¬ (roadF (M.1 (o + 69 + 1)) len (M.1 (o + 1 + 1 + 1)) (M.1 (o + 1 + 1 + 12)) (tT0 (M.1 (o + 1 + 15)))).1 = 0 ∧ ∃ (M1 : zM) (S : zRd), S = (roadF (M.1 (o + 69 + 1)) len (M.1 (o + 1 + 1 + 1)) (M.1 (o + 1 + 1 + 12)) (tT0 (M.1 (o + 1 + 15)))).2.2 ∧ r = nI S.1 ∧ ztf M M1 ∧ M1.1 (o + 69) 1 = 0 ∧ M2 = zs (za (zrd M1 (o + 1 + 1) (va_up (va_up (M.1 (o + 1 + 1)) 0 (nI S.1)) 1 (nI S.2.2.1)) S.2.1 S.2.2.2.1) (o + 1 + 15) S.2.2.2.2) (o + 1) 3 0)) := by
  refine zCi_of J zm_X7_road [some (.ref (w.2.2 o)), none] (Nat.le_of_ble_eq_true rfl) rfl (fun g hg F X => ?_)
  subst hg
  generalize hR : roadF (M.1 (o + 69 + 1)) len (M.1 (o + 1 + 1 + 1)) (M.1 (o + 1 + 1 + 12)) (tT0 (M.1 (o + 1 + 15))) = R at X
  refine z_aload_n F dX7_road_0 rfl ?_
  refine zg_X7_tape F (by with_reducible assumption) fl_X7_22 dX7_road_1 (fun hk_1 => ?_)
  refine z_aload_n F dX7_road_4 rfl ?_
  refine zg_X7_now F (by with_reducible assumption) fl_X7_10 dX7_road_5 (fun hk_5 => ?_)
  refine z_callVi F (c_X3_readRoad J (by with_reducible assumption) (by with_reducible assumption) (by omega) (by omega) hl h120 hL) zm_X3_readRoad zv_X3_readRoad ml_X7_155 (by with_reducible assumption) (by decide) rfl rfl rfl (Nat.le_of_ble_eq_true rfl) dX7_road_8 (by omega) (fun r_8 M_8 h_8 => ?_)
  rw [hR] at h_8
  obtain ⟨rfl, S, hS, hS2⟩ := h_8
  have t1 : ztf M (zs M_8 (o + 69) 1 0) := ⟨hS.2.2.2.2.2.1, fun b q => by rw [zs_off _ (by omega)]; exact hS.2.2.2.2.2.2 b (by omega) (by omega) (by omega) (by omega) (by omega) (by omega)⟩
  have t2 : (zs M_8 (o + 69) 1 0).1 (o + 69) 1 = 0 := by rw [zs_at, va_up_self]
  have t3 : (zs M_8 (o + 69) 1 0).1 (o + 69) 2 = nI R.2.1 := by rw [zs_at, va_up_ne _ _ (by decide), hS.1, va_up_self]
  have t4 : (zs M_8 (o + 69) 1 0).1 (o + 69 + 2) = va_up (va_up (M.1 (o + 1 + 1)) 0 (nI S.1)) 1 (nI S.2.2.1) := by rw [zs_off _ (by omega), hS.2.1]
  have t5 : (zs M_8 (o + 69) 1 0).1 (o + 69 + 2 + 1) = S.2.1 := by rw [zs_off _ (by omega), hS.2.2.1]
  have t6 : (zs M_8 (o + 69) 1 0).1 (o + 69 + 2 + 12) = S.2.2.2.1 := by rw [zs_off _ (by omega), hS.2.2.2.1]
  have t7 : (zs M_8 (o + 69) 1 0).1 (o + 69 + 16) = S.2.2.2.2 := by rw [zs_off _ (by omega), hS.2.2.2.2.1]
  refine z_istore_n (lv' := [_, _]) F dX7_road_11 (by decide) rfl rfl ?_
  refine z_aload_n F dX7_road_12 rfl ?_
  refine zg_X7_tape F (by with_reducible assumption) fl_X7_22 dX7_road_13 (fun hk_13 => ?_)
  refine z_iconst (v := 0) F dX7_road_16 (by decide) ?_
  refine zp_X3_length F (by with_reducible assumption) fl_X7_148 dX7_road_17 ?_
  generalize zs M_8 (o + 69) 1 0 = M1 at t1 t2 t3 t4 t5 t6 t7 ⊢
  refine z_iload_n F dX7_road_20 rfl ?_
  refine z_if_ne (tgt := 35) F dX7_road_21 (by decide) (fun h_21 => ?_) (fun h_21 => ?_)
  · try simp only [t3] at h_21
    refine z_aload_n F dX7_road_35 rfl ?_
    refine zg_X7_now F (by with_reducible assumption) fl_X7_10 dX7_road_36 (fun hk_36 => ?_)
    refine zg_X6_road F (by with_reducible assumption) fl_X7_44 dX7_road_39 (fun hk_39 => ?_)
    refine z_aload_n F dX7_road_42 rfl ?_
    refine zg_X7_tape F (by with_reducible assumption) fl_X7_22 dX7_road_43 (fun hk_43 => ?_)
    refine zg_X3_road F (by with_reducible assumption) fl_X7_162 dX7_road_46 (fun hk_46 => ?_)
    refine z_callVv F (d_X1_setFrom J (by with_reducible assumption) (by with_reducible assumption) (by omega)) zm_X1_setFrom zv_X1_setFrom ml_X7_163 (by with_reducible assumption) (by decide) rfl rfl rfl (Nat.le_of_ble_eq_true rfl) dX7_road_49 (by omega) (fun M_49 h_49 => ?_)
    replace h_49 := Eq.symm h_49
    subst h_49
    rw [t4, t5, t6]
    have u1 : (zrd M1 (o + 1 + 1) (va_up (va_up (M.1 (o + 1 + 1)) 0 (nI S.1)) 1 (nI S.2.2.1)) S.2.1 S.2.2.2.1).1 (o + 69 + 16) = S.2.2.2.2 := by unfold zrd; rw [za_off _ (by omega), za_off _ (by omega), za_off _ (by omega), t7]
    have u2 : ∀ h, (zs (za (zrd M1 (o + 1 + 1) (va_up (va_up (M.1 (o + 1 + 1)) 0 (nI S.1)) 1 (nI S.2.2.1)) S.2.1 S.2.2.2.1) (o + 1 + 15) h) (o + 1) 3 0).1 (o + 1 + 1) 0 = nI S.1 := fun h => by unfold zrd; rw [zs_off _ (by omega), za_off _ (by omega), za_at]; rfl
    refine z_aload_n F dX7_road_52 rfl ?_
    refine zg_X7_now F (by with_reducible assumption) fl_X7_10 dX7_road_53 (fun hk_53 => ?_)
    refine zg_X6_trip F (by with_reducible assumption) fl_X7_83 dX7_road_56 (fun hk_56 => ?_)
    refine z_aload_n F dX7_road_59 rfl ?_
    refine zg_X7_tape F (by with_reducible assumption) fl_X7_22 dX7_road_60 (fun hk_60 => ?_)
    refine zg_X3_trip F (by with_reducible assumption) fl_X7_167 dX7_road_63 (fun hk_63 => ?_)
    refine z_callVv F (d_X5_setFrom J (by with_reducible assumption) (by with_reducible assumption) (by omega)) zm_X5_setFrom zv_X5_setFrom ml_X7_168 (by with_reducible assumption) (by decide) rfl rfl rfl (Nat.le_of_ble_eq_true rfl) dX7_road_66 (by omega) (fun M_66 h_66 => ?_)
    replace h_66 := Eq.symm h_66
    subst h_66
    rw [u1]
    refine z_aload_n F dX7_road_69 rfl ?_
    refine zg_X7_now F (by with_reducible assumption) fl_X7_10 dX7_road_70 (fun hk_70 => ?_)
    refine z_iconst (v := 0) F dX7_road_73 (by decide) ?_
    refine zp_X6_known F (by with_reducible assumption) fl_X7_54 dX7_road_74 ?_
    refine z_aload_n F dX7_road_77 rfl ?_
    refine zg_X7_now F (by with_reducible assumption) fl_X7_10 dX7_road_78 (fun hk_78 => ?_)
    refine zg_X6_road F (by with_reducible assumption) fl_X7_44 dX7_road_81 (fun hk_81 => ?_)
    refine zg_X1_thingCount F (by with_reducible assumption) fl_X7_48 dX7_road_84 ?_
    try simp only [t3]
    refine z_iret F X dX7_road_87 ?_
    rw [u2]
    exact Or.inr ⟨h_21, M1, S, hS2 h_21, rfl, t1, t2, rfl⟩
  · try simp only [t3] at h_21
    refine z_bipush (v := (-20)) F dX7_road_24 (by decide) ?_
    refine z_aload_n F dX7_road_26 rfl ?_
    refine zg_X7_tape F (by with_reducible assumption) fl_X7_22 dX7_road_27 (fun hk_27 => ?_)
    refine zg_X3_place F (by with_reducible assumption) fl_X7_159 dX7_road_30 ?_
    try simp only [t3]
    refine z_isub F dX7_road_33 ?_
    refine z_iret F X dX7_road_34 ?_
    exact Or.inl ⟨h_21, rfl, t1, t2⟩
end
section
/-- what is wrong with a range of a sheet, or 0 -/
def rowF (B : zF1) (ln i n : Int32) : Int32 := if B 0 = 0 then -11 else if ¬ B 1 = ln then -12 else if 0 ≤ i ∧ 0 ≤ n ∧ n ≤ B 2 ∧ i ≤ B 2 - n then 0 else -13
def rowS (M : zM) (o : Nat) (x ln i n : Int32) : Int32 := if (x < 0 ∨ 3 < x) ∨ (ln < 0 ∨ 3 < ln) then -1 else rowF (M.1 (o + 129 + 1 + 2 * x.toNatClampNeg)) ln i n
theorem in4 {x : Int32} (h : ¬ (x < 0 ∨ 3 < x)) : vp_in x 4 := vpl 4 (by decide) (by grind)
theorem c_X7_rowFault {l : Launch} {w : zE} (J : zJ w) {M : zM} {o : Nat} {x ln i n : Int32} (hk : zk o = 7) : zCi l w yX7_rowFault cX7_rowFault 6 (some .int) 1 [.ref (w.2.2 o), .int x, .int ln, .int i, .int n] M (fun r M2 => M2 = M ∧ r = rowS M o x ln i n) := by
  refine zCi_of J zm_X7_rowFault [some (.ref (w.2.2 o)), some (.int x), some (.int ln), some (.int i), some (.int n), none] (Nat.le_of_ble_eq_true rfl) rfl (fun g hg F X => ?_)
  subst hg
  refine z_iload_n F dX7_rowFault_0 rfl ?_
  refine z_iconst (v := 3) F dX7_rowFault_1 (by decide) ?_
  refine z_callSi F (c_X7_isNot J) zm_X7_isNot zst_X7_isNot ml_X7_40 rfl rfl (Nat.le_of_ble_eq_true rfl) dX7_rowFault_2 (by omega) (fun r_2 M_2 h_2 => ?_)
  obtain ⟨e_2, rfl⟩ := h_2
  replace e_2 := Eq.symm e_2
  subst e_2
  refine z_if_ne (tgt := 16) F dX7_rowFault_5 (by decide) (fun h_5 => ?_) (fun h_5 => ?_)
  · replace h_5 := bI_1.mp h_5
    refine z_iconst (v := (-1)) F dX7_rowFault_16 (by decide) ?_
    refine z_iret F X dX7_rowFault_17 ?_
    refine ⟨rfl, ?_⟩
    unfold rowS
    first | exact (if_pos (Or.inl h_5)).symm | exact (if_pos (Or.inr h_13)).symm
  · replace h_5 := bI_0.mp h_5
    refine z_iload_n F dX7_rowFault_8 rfl ?_
    refine z_iconst (v := 3) F dX7_rowFault_9 (by decide) ?_
    refine z_callSi F (c_X7_isNot J) zm_X7_isNot zst_X7_isNot ml_X7_40 rfl rfl (Nat.le_of_ble_eq_true rfl) dX7_rowFault_10 (by omega) (fun r_10 M_10 h_10 => ?_)
    obtain ⟨e_10, rfl⟩ := h_10
    replace e_10 := Eq.symm e_10
    subst e_10
    refine z_if_eq (tgt := 18) F dX7_rowFault_13 (by decide) (fun h_13 => ?_) (fun h_13 => ?_)
    · replace h_13 := bI_0.mp h_13
      refine z_aload_n F dX7_rowFault_18 rfl ?_
      refine zg_X7_sheets F (by with_reducible assumption) fl_X7_35 dX7_rowFault_19 (fun hk_19 => ?_)
      refine z_iload_n F dX7_rowFault_22 rfl ?_
      refine z_aald15 F (by with_reducible assumption) (in4 h_5) dX7_rowFault_23 (fun hk_23 => ?_)
      refine z_astore (lv' := [_, _, _, _, _, _]) F dX7_rowFault_24 (by decide) rfl rfl ?_
      refine z_aload F dX7_rowFault_26 rfl ?_
      refine zg_X2_isThere F (by with_reducible assumption) fl_X7_255 dX7_rowFault_28 ?_
      refine z_if_ne (tgt := 37) F dX7_rowFault_31 (by decide) (fun h_31 => ?_) (fun h_31 => ?_)
      · refine z_aload F dX7_rowFault_37 rfl ?_
        refine zg_X2_lane F (by with_reducible assumption) fl_X7_259 dX7_rowFault_39 ?_
        refine z_iload_n F dX7_rowFault_42 rfl ?_
        refine z_ic_eq (tgt := 49) F dX7_rowFault_43 (by decide) (fun h_43 => ?_) (fun h_43 => ?_)
        · refine z_aload F dX7_rowFault_49 rfl ?_
          refine z_iload_n F dX7_rowFault_51 rfl ?_
          refine z_iload F dX7_rowFault_52 rfl ?_
          refine z_callVi F (c_X2_hasRange J (by with_reducible assumption)) zm_X2_hasRange zv_X2_hasRange ml_X7_262 (by with_reducible assumption) (by decide) rfl rfl rfl (Nat.le_of_ble_eq_true rfl) dX7_rowFault_54 (by omega) (fun r_54 M_54 h_54 => ?_)
          obtain ⟨e_54, rfl⟩ := h_54
          replace e_54 := Eq.symm e_54
          subst e_54
          refine z_if_eq (tgt := 64) F dX7_rowFault_57 (by decide) (fun h_57 => ?_) (fun h_57 => ?_)
          · replace h_57 := bI_0.mp h_57
            refine z_bipush (v := (-13)) F dX7_rowFault_64 (by decide) ?_
            refine z_iret F X dX7_rowFault_66 ?_
            refine ⟨rfl, ?_⟩
            unfold rowS rowF
            rw [if_neg (fun q => q.elim h_5 h_13), if_neg h_31, if_neg (not_not_intro h_43), if_neg h_57]
          · replace h_57 := bI_1.mp h_57
            refine z_iconst (v := 0) F dX7_rowFault_60 (by decide) ?_
            refine z_goto (tgt := 66) F dX7_rowFault_61 (by decide) ?_
            refine z_iret F X dX7_rowFault_66 ?_
            refine ⟨rfl, ?_⟩
            unfold rowS rowF
            rw [if_neg (fun q => q.elim h_5 h_13), if_neg h_31, if_neg (not_not_intro h_43), if_pos h_57]
        · refine z_bipush (v := (-12)) F dX7_rowFault_46 (by decide) ?_
          refine z_iret F X dX7_rowFault_48 ?_
          refine ⟨rfl, ?_⟩
          unfold rowS rowF
          rw [if_neg (fun q => q.elim h_5 h_13), if_neg h_31, if_pos h_43]
      · refine z_bipush (v := (-11)) F dX7_rowFault_34 (by decide) ?_
        refine z_iret F X dX7_rowFault_36 ?_
        refine ⟨rfl, ?_⟩
        unfold rowS rowF
        rw [if_neg (fun q => q.elim h_5 h_13), if_pos h_31]
    · replace h_13 := bI_1.mp h_13
      refine z_iconst (v := (-1)) F dX7_rowFault_16 (by decide) ?_
      refine z_iret F X dX7_rowFault_17 ?_
      refine ⟨rfl, ?_⟩
      unfold rowS
      first | exact (if_pos (Or.inl h_5)).symm | exact (if_pos (Or.inr h_13)).symm
theorem rowS_ok {M : zM} {o : Nat} {x ln i n : Int32} (h : ¬ rowS M o x ln i n < 0) : ¬ (x < 0 ∨ 3 < x) ∧ ¬ (ln < 0 ∨ 3 < ln) ∧ ¬ M.1 (o + 129 + 1 + 2 * x.toNatClampNeg) 0 = 0 ∧ M.1 (o + 129 + 1 + 2 * x.toNatClampNeg) 1 = ln ∧ 0 ≤ i ∧ 0 ≤ n ∧ n ≤ M.1 (o + 129 + 1 + 2 * x.toNatClampNeg) 2 ∧ i ≤ M.1 (o + 129 + 1 + 2 * x.toNatClampNeg) 2 - n ∧ rowS M o x ln i n = 0 := by
  unfold rowS rowF at *
  by_cases h1 : (x < 0 ∨ 3 < x) ∨ (ln < 0 ∨ 3 < ln)
  · rw [if_pos h1] at h; exact absurd (by decide) h
  rw [if_neg h1] at h ⊢
  by_cases h2 : M.1 (o + 129 + 1 + 2 * x.toNatClampNeg) 0 = 0
  · rw [if_pos h2] at h; exact absurd (by decide) h
  rw [if_neg h2] at h ⊢
  by_cases h3 : M.1 (o + 129 + 1 + 2 * x.toNatClampNeg) 1 = ln
  · rw [if_neg (not_not_intro h3)] at h ⊢
    by_cases h4 : 0 ≤ i ∧ 0 ≤ n ∧ n ≤ M.1 (o + 129 + 1 + 2 * x.toNatClampNeg) 2 ∧ i ≤ M.1 (o + 129 + 1 + 2 * x.toNatClampNeg) 2 - n
    · rw [if_pos h4]
      exact ⟨fun q => h1 (Or.inl q), fun q => h1 (Or.inr q), h2, h3, h4.1, h4.2.1, h4.2.2.1, h4.2.2.2, rfl⟩
    · rw [if_neg h4] at h; exact absurd (by decide) h
  · rw [if_pos h3] at h; exact absurd (by decide) h
theorem rng_n {B i n : Int32} {L : Nat} (hL : B = nI L) (h16 : L ≤ 16) (h1 : 0 ≤ i) (h2 : 0 ≤ n) (h3 : n ≤ B) (h4 : i ≤ B - n) : ∃ a k, i = nI a ∧ n = nI k ∧ a + k ≤ L := by
  subst hL
  obtain ⟨a, ha, rfl⟩ := nI_of (Int32.not_lt.mpr h1)
  obtain ⟨k, hk, rfl⟩ := nI_of (Int32.not_lt.mpr h2)
  have e3 := (nI_leI hk (by omega)).mp h3
  rw [pk_sub e3] at h4
  have e4 := (nI_leI ha (by omega)).mp h4
  exact ⟨a, k, rfl, rfl, by omega⟩
theorem l_th {v : Int64} {c : Int32} (h0 : 0 ≤ v) (h1 : v < c.toInt64) (hc : c ≤ 10) : 0 ≤ v.toInt32 ∧ v.toInt32 < c ∧ v.toInt32 < 10 := by
  have a := Int64.le_iff_toInt_le.mp h0
  have b := Int64.lt_iff_toInt_lt.mp h1
  rw [Int32.toInt_toInt64] at b
  have d := Int32.le_iff_toInt_le.mp hc
  have z0 : (0 : Int64).toInt = 0 := by decide
  have z1 : (10 : Int32).toInt = 10 := by decide
  have z2 : (0 : Int32).toInt = 0 := by decide
  have e : v.toInt32.toInt = v.toInt := by rw [Int64.toInt_toInt32]; exact Int.bmod_eq_of_le (by omega) (by omega)
  refine ⟨Int32.le_iff_toInt_le.mpr ?_, Int32.lt_iff_toInt_lt.mpr ?_, Int32.lt_iff_toInt_lt.mpr ?_⟩ <;> omega
/-- all of so many items are things -/
def allIn (f : Nat → Int64) (nt : Int32) : Nat → Nat → Prop
  | 0, _ => True
  | j + 1, k => (0 ≤ f k ∧ f k < nt.toInt64) ∧ allIn f nt j (k + 1)
theorem allIn_at {f : Nat → Int64} {nt : Int32} : ∀ {j k : Nat}, allIn f nt j k → ∀ q, k ≤ q → q < k + j → 0 ≤ f q ∧ f q < nt.toInt64 := by
  intro j
  induction j with
  | zero => intro k _ q h1 h2; omega
  | succ j ih =>
    intro k h q h1 h2
    by_cases e : q = k
    · rw [e]; exact h.1
    · exact ih h.2 q (by omega) (by omega)
/-- by which minds all the changes are seen -/
def seenL (th : zF1) (f : Nat → Int64) : Nat → Nat → Int32 → Int32
  | 0, _, s => s
  | j + 1, k, s => seenL th f j (k + 2) (s &&& mindsF th (f k).toInt32.toNatClampNeg (f (k + 1)).toInt32.toNatClampNeg)
theorem c_X7_seen {l : Launch} {w : zE} (J : zJ w) {M : zM} {o L : Nat} {x ln i n : Int32} (hk : zk o = 7) (hnt : M.1 (o + 1 + 1) 0 ≤ 10) (hL : M.1 (o + 129 + 1 + 2 * x.toNatClampNeg) 2 = nI L) (h16 : L ≤ 16) : zCi l w yX7_seen cX7_seen 9 (some .int) 3 [.ref (w.2.2 o), .int x, .int ln, .int i, .int n] M (fun r M2 => M2 = M ∧ ((n < 1 ∨ 8 < n) ∧ r = -1 ∨ ¬ (n < 1 ∨ 8 < n) ∧ (rowS M o x ln i (2 * n) < 0 ∧ r = rowS M o x ln i (2 * n) ∨ ¬ rowS M o x ln i (2 * n) < 0 ∧ ∃ a m, i = nI a ∧ n = nI m ∧ a + 2 * m ≤ 16 ∧ (¬ allIn (M.2 (o + 129 + 1 + 2 * x.toNatClampNeg + 1)) (M.1 (o + 1 + 1) 0) (2 * m) a ∧ r = -2 ∨ allIn (M.2 (o + 129 + 1 + 2 * x.toNatClampNeg + 1)) (M.1 (o + 1 + 1) 0) (2 * m) a ∧ r = seenL (M.1 (o + 1 + 1 + 1)) (M.2 (o + 129 + 1 + 2 * x.toNatClampNeg + 1)) m a 3)))) := by
  refine zCi_of J zm_X7_seen [some (.ref (w.2.2 o)), some (.int x), some (.int ln), some (.int i), some (.int n), none, none, none, none] (Nat.le_of_ble_eq_true rfl) rfl (fun g hg F X => ?_)
  subst hg
  generalize hs : o + 129 + 1 + 2 * x.toNatClampNeg = s at X
  have key2 : ∀ (a m : Nat) (y : Int32), zk s = 2 → i = nI a → n = nI m → a + 2 * m ≤ 16 → ¬ (n < 1 ∨ 8 < n) → ¬ rowS M o x ln i (2 * n) < 0 → allIn (M.2 (s + 1)) (M.1 (o + 1 + 1) 0) (2 * m) a → ∀ (j k : Nat) (u : Int32), a + 2 * m = k + 2 * j → a ≤ k → seenL (M.1 (o + 1 + 1 + 1)) (M.2 (s + 1)) j k u = seenL (M.1 (o + 1 + 1 + 1)) (M.2 (s + 1)) m a 3 → ZW w g 9 106 [some (.ref (w.2.2 o)), some (.int x), some (.int ln), some (.int i), some (.int n), some (.int y), some (.ref (w.2.2 (s + 1))), some (.int u), some (.int (nI k))] [] M := by
    intro a m y hk2 hia hnm h2 hn1 hF hal j
    have hz := zn_sheet s (zk_i hk2 (by decide)) hk2
    have hk14 := zkf2 s (zk_i hk2 (by decide)) hk2
    have e2 : (2 : Int32) * n = nI (2 * m) := by rw [hnm]; exact pk_mul 2 m
    have e3 : i + (2 : Int32) * n = nI (a + 2 * m) := by rw [e2, hia, nI_add]
    induction j with
    | zero =>
      intro k u hkj hak hse
      refine z_iload F dX7_seen_106 rfl ?_
      refine z_iload_n F dX7_seen_108 rfl ?_
      refine z_iconst (v := 2) F dX7_seen_109 (by decide) ?_
      refine z_iload F dX7_seen_110 rfl ?_
      refine z_imul F dX7_seen_112 ?_
      refine z_iadd F dX7_seen_113 ?_
      refine z_ic_ge (tgt := 152) F dX7_seen_114 (by decide) (fun h_114 => ?_) (fun h_114 => absurd h_114 (by rw [e3, show k = a + 2 * m by omega]; exact nlt (Int32.le_refl _)))
      refine z_iload F dX7_seen_152 rfl ?_
      refine z_iret F X dX7_seen_154 ?_
      exact ⟨rfl, Or.inr ⟨hn1, Or.inr ⟨hF, a, m, hia, hnm, h2, Or.inr ⟨hal, hse⟩⟩⟩⟩
    | succ j ih =>
      intro k u hkj hak hse
      have c0 : (nI k).toNatClampNeg = k := nI_clamp (by omega)
      have c1 : (nI k + 1).toNatClampNeg = k + 1 := by rw [nI_1]; exact nI_clamp (by omega)
      have i0 := l_th (allIn_at hal k (by omega) (by omega)).1 (allIn_at hal k (by omega) (by omega)).2 hnt
      have i1 := l_th (allIn_at hal (k + 1) (by omega) (by omega)).1 (allIn_at hal (k + 1) (by omega) (by omega)).2 hnt
      refine z_iload F dX7_seen_106 rfl ?_
      refine z_iload_n F dX7_seen_108 rfl ?_
      refine z_iconst (v := 2) F dX7_seen_109 (by decide) ?_
      refine z_iload F dX7_seen_110 rfl ?_
      refine z_imul F dX7_seen_112 ?_
      refine z_iadd F dX7_seen_113 ?_
      refine z_ic_ge (tgt := 152) F dX7_seen_114 (by decide) (fun h_114 => absurd h_114 (by rw [e3]; exact nle (nI_lt (by omega) (by omega)))) (fun h_114 => ?_)
      refine z_iload F dX7_seen_117 rfl ?_
      refine z_aload_n F dX7_seen_119 rfl ?_
      refine zg_X7_now F (by with_reducible assumption) fl_X7_10 dX7_seen_120 (fun hk_120 => ?_)
      refine zg_X6_road F (by with_reducible assumption) fl_X7_44 dX7_seen_123 (fun hk_123 => ?_)
      refine z_aload F dX7_seen_126 rfl ?_
      refine z_iload F dX7_seen_128 rfl ?_
      refine z_lald14 F (by with_reducible assumption) (by rw [hz]; exact vp_in_nI (by omega) (by omega)) dX7_seen_130 ?_
      try simp only [c0, c1]
      refine z_l2i F dX7_seen_131 ?_
      refine z_aload F dX7_seen_132 rfl ?_
      refine z_iload F dX7_seen_134 rfl ?_
      refine z_iconst (v := 1) F dX7_seen_136 (by decide) ?_
      refine z_iadd F dX7_seen_137 ?_
      refine z_lald14 F (by with_reducible assumption) (by rw [hz, nI_1]; exact vp_in_nI (by omega) (by omega)) dX7_seen_138 ?_
      try simp only [c0, c1]
      refine z_l2i F dX7_seen_139 ?_
      refine z_callVi F (c_X1_mindsOf J (by with_reducible assumption) ⟨i0.1, i0.2.2⟩ ⟨i1.1, i1.2.2⟩) zm_X1_mindsOf zv_X1_mindsOf ml_X7_236 (by with_reducible assumption) (by decide) rfl rfl rfl (Nat.le_of_ble_eq_true rfl) dX7_seen_140 (by omega) (fun r_140 M_140 h_140 => ?_)
      obtain ⟨e_140, rfl⟩ := h_140
      replace e_140 := Eq.symm e_140
      subst e_140
      refine z_iand F dX7_seen_143 ?_
      refine z_istore (lv' := [_, _, _, _, _, _, _, _, _]) F dX7_seen_144 (by decide) rfl rfl ?_
      refine z_iincc (c := 2) (lv' := [_, _, _, _, _, _, _, _, _]) F dX7_seen_146 rfl (by decide) (by decide) rfl rfl ?_
      refine z_goto (tgt := 106) F dX7_seen_149 (by decide) ?_
      rw [show nI k + 2 = nI (k + 2) from nI_add k 2]
      exact ih (k + 2) _ (by omega) (by omega) hse
  have key1 : ∀ (a m : Nat) (y : Int32), zk s = 2 → i = nI a → n = nI m → a + 2 * m ≤ 16 → ¬ (n < 1 ∨ 8 < n) → ¬ rowS M o x ln i (2 * n) < 0 → ∀ (j k : Nat), a + 2 * m = k + j → a ≤ k → (allIn (M.2 (s + 1)) (M.1 (o + 1 + 1) 0) j k ↔ allIn (M.2 (s + 1)) (M.1 (o + 1 + 1) 0) (2 * m) a) → ZW w g 9 50 [some (.ref (w.2.2 o)), some (.int x), some (.int ln), some (.int i), some (.int n), some (.int y), some (.ref (w.2.2 (s + 1))), some (.int (nI k)), none] [] M := by
    intro a m y hk2 hia hnm h2 hn1 hF j
    have hz := zn_sheet s (zk_i hk2 (by decide)) hk2
    have hk14 := zkf2 s (zk_i hk2 (by decide)) hk2
    have e2 : (2 : Int32) * n = nI (2 * m) := by rw [hnm]; exact pk_mul 2 m
    have e3 : i + (2 : Int32) * n = nI (a + 2 * m) := by rw [e2, hia, nI_add]
    induction j with
    | zero =>
      intro k hkj hak hse
      refine z_iload F dX7_seen_50 rfl ?_
      refine z_iload_n F dX7_seen_52 rfl ?_
      refine z_iconst (v := 2) F dX7_seen_53 (by decide) ?_
      refine z_iload F dX7_seen_54 rfl ?_
      refine z_imul F dX7_seen_56 ?_
      refine z_iadd F dX7_seen_57 ?_
      refine z_ic_ge (tgt := 100) F dX7_seen_58 (by decide) (fun h_58 => ?_) (fun h_58 => absurd h_58 (by rw [e3, show k = a + 2 * m by omega]; exact nlt (Int32.le_refl _)))
      refine z_iconst (v := 3) F dX7_seen_100 (by decide) ?_
      refine z_istore (lv' := [_, _, _, _, _, _, _, _, _]) F dX7_seen_101 (by decide) rfl rfl ?_
      refine z_iload_n F dX7_seen_103 rfl ?_
      refine z_istore (lv' := [_, _, _, _, _, _, _, _, _]) F dX7_seen_104 (by decide) rfl rfl ?_
      rw [hia]
      rw [hia] at key2
      exact key2 a m y hk2 rfl hnm h2 hn1 (by rw [← hia]; exact hF) (hse.mp trivial) m a 3 rfl (by omega) rfl
    | succ j ih =>
      intro k hkj hak hse
      have c0 : (nI k).toNatClampNeg = k := nI_clamp (by omega)
      refine z_iload F dX7_seen_50 rfl ?_
      refine z_iload_n F dX7_seen_52 rfl ?_
      refine z_iconst (v := 2) F dX7_seen_53 (by decide) ?_
      refine z_iload F dX7_seen_54 rfl ?_
      refine z_imul F dX7_seen_56 ?_
      refine z_iadd F dX7_seen_57 ?_
      refine z_ic_ge (tgt := 100) F dX7_seen_58 (by decide) (fun h_58 => absurd h_58 (by rw [e3]; exact nle (nI_lt (by omega) (by omega)))) (fun h_58 => ?_)
      refine z_aload F dX7_seen_61 rfl ?_
      refine z_iload F dX7_seen_63 rfl ?_
      refine z_lald14 F (by with_reducible assumption) (by rw [hz]; exact vp_in_nI (by omega) (by omega)) dX7_seen_65 ?_
      try simp only [c0, lg_cmp_ge, lg_cmp_lt]
      refine z_lconst (v := 0) F dX7_seen_66 (by decide) ?_
      refine z_lcmp F dX7_seen_67 ?_
      refine z_if_lt (tgt := 91) F dX7_seen_68 (by decide) (fun h_68 => ?_) (fun h_68 => ?_)
      · try simp only [c0, lg_cmp_ge, lg_cmp_lt] at h_68
        refine z_bipush (v := (-2)) F dX7_seen_91 (by decide) ?_
        refine z_iret F X dX7_seen_93 ?_
        refine ⟨rfl, Or.inr ⟨hn1, Or.inr ⟨hF, a, m, hia, hnm, h2, Or.inl ⟨fun q => ?_, rfl⟩⟩⟩⟩
        replace q := (hse.mpr q).1
        first | exact absurd h_68 (Int64.not_lt.mpr q.1) | exact absurd q.2 (Int64.not_lt.mpr h_88)
      · try simp only [c0, lg_cmp_ge, lg_cmp_lt] at h_68
        refine z_aload F dX7_seen_71 rfl ?_
        refine z_iload F dX7_seen_73 rfl ?_
        refine z_lald14 F (by with_reducible assumption) (by rw [hz]; exact vp_in_nI (by omega) (by omega)) dX7_seen_75 ?_
        try simp only [c0, lg_cmp_ge, lg_cmp_lt]
        refine z_aload_n F dX7_seen_76 rfl ?_
        refine zg_X7_now F (by with_reducible assumption) fl_X7_10 dX7_seen_77 (fun hk_77 => ?_)
        refine zg_X6_road F (by with_reducible assumption) fl_X7_44 dX7_seen_80 (fun hk_80 => ?_)
        refine zg_X1_thingCount F (by with_reducible assumption) fl_X7_48 dX7_seen_83 ?_
        try simp only [c0, lg_cmp_ge, lg_cmp_lt]
        refine z_i2l F dX7_seen_86 ?_
        refine z_lcmp F dX7_seen_87 ?_
        refine z_if_lt (tgt := 94) F dX7_seen_88 (by decide) (fun h_88 => ?_) (fun h_88 => ?_)
        · try simp only [c0, lg_cmp_ge, lg_cmp_lt] at h_88
          refine z_iincc (c := 1) (lv' := [_, _, _, _, _, _, _, _, _]) F dX7_seen_94 rfl (by decide) (by decide) rfl rfl ?_
          refine z_goto (tgt := 50) F dX7_seen_97 (by decide) ?_
          rw [nI_1]
          exact ih (k + 1) (by omega) (by omega) ⟨fun q => hse.mp ⟨⟨h_68, h_88⟩, q⟩, fun q => (hse.mpr q).2⟩
        · try simp only [c0, lg_cmp_ge, lg_cmp_lt] at h_88
          refine z_bipush (v := (-2)) F dX7_seen_91 (by decide) ?_
          refine z_iret F X dX7_seen_93 ?_
          refine ⟨rfl, Or.inr ⟨hn1, Or.inr ⟨hF, a, m, hia, hnm, h2, Or.inl ⟨fun q => ?_, rfl⟩⟩⟩⟩
          replace q := (hse.mpr q).1
          first | exact absurd h_68 (Int64.not_lt.mpr q.1) | exact absurd q.2 (Int64.not_lt.mpr h_88)
  refine z_iload F dX7_seen_0 rfl ?_
  refine z_iconst (v := 1) F dX7_seen_2 (by decide) ?_
  refine z_ic_lt (tgt := 13) F dX7_seen_3 (by decide) (fun h_3 => ?_) (fun h_3 => ?_)
  · refine z_iconst (v := (-1)) F dX7_seen_13 (by decide) ?_
    refine z_iret F X dX7_seen_14 ?_
    refine ⟨rfl, Or.inl ⟨?_, rfl⟩⟩
    first | exact Or.inl h_3 | exact Or.inr h_10
  · refine z_iload F dX7_seen_6 rfl ?_
    refine z_bipush (v := 8) F dX7_seen_8 (by decide) ?_
    refine z_ic_le (tgt := 15) F dX7_seen_10 (by decide) (fun h_10 => ?_) (fun h_10 => ?_)
    · refine z_aload_n F dX7_seen_15 rfl ?_
      refine z_iload_n F dX7_seen_16 rfl ?_
      refine z_iload_n F dX7_seen_17 rfl ?_
      refine z_iload_n F dX7_seen_18 rfl ?_
      refine z_iconst (v := 2) F dX7_seen_19 (by decide) ?_
      refine z_iload F dX7_seen_20 rfl ?_
      refine z_imul F dX7_seen_22 ?_
      refine z_callVi F (c_X7_rowFault J hk) zm_X7_rowFault zv_X7_rowFault ml_X7_229 (by with_reducible assumption) (by decide) rfl rfl rfl (Nat.le_of_ble_eq_true rfl) dX7_seen_23 (by omega) (fun r_23 M_23 h_23 => ?_)
      obtain ⟨e_23, rfl⟩ := h_23
      replace e_23 := Eq.symm e_23
      subst e_23
      refine z_istore (lv' := [_, _, _, _, _, _, _, _, _]) F dX7_seen_26 (by decide) rfl rfl ?_
      refine z_iload F dX7_seen_28 rfl ?_
      refine z_if_ge (tgt := 36) F dX7_seen_30 (by decide) (fun h_30 => ?_) (fun h_30 => ?_)
      · refine z_aload_n F dX7_seen_36 rfl ?_
        refine zg_X7_sheets F (by with_reducible assumption) fl_X7_35 dX7_seen_37 (fun hk_37 => ?_)
        refine z_iload_n F dX7_seen_40 rfl ?_
        refine z_aald15 F (by with_reducible assumption) (in4 (rowS_ok (nlt h_30)).1) dX7_seen_41 (fun hk_41 => ?_)
        refine zg_X2_items F (by with_reducible assumption) fl_X7_232 dX7_seen_42 (fun hk_42 => ?_)
        refine z_astore (lv' := [_, _, _, _, _, _, _, _, _]) F dX7_seen_45 (by decide) rfl rfl ?_
        refine z_iload_n F dX7_seen_47 rfl ?_
        refine z_istore (lv' := [_, _, _, _, _, _, _, _, _]) F dX7_seen_48 (by decide) rfl rfl ?_
        rw [hs] at hk_41 ⊢
        have hn1 : ¬ (n < 1 ∨ 8 < n) := fun q => q.elim (nlt h_3) (nlt h_10)
        obtain ⟨r1, r2, r3, r4, r5, r6, r7, r8, r9⟩ := rowS_ok (nlt h_30)
        obtain ⟨m, hm, rfl⟩ := nI_of (x := n) (by grind)
        have hm8 := (nI_leI (b := 8) hm (by decide)).mp h_10
        obtain ⟨a, k, rfl, e6, e7⟩ := rng_n hL h16 r5 r6 r7 r8
        have e8 : 2 * m = k := by
          have : (2 : Int32) * nI m = nI (2 * m) := pk_mul 2 m
          rw [this] at e6
          exact (nI_eq (by omega) (by omega)).mp e6
        exact key1 a m _ hk_41 rfl rfl (by omega) hn1 (nlt h_30) (2 * m) a rfl (by omega) Iff.rfl
      · refine z_iload F dX7_seen_33 rfl ?_
        refine z_iret F X dX7_seen_35 ?_
        exact ⟨rfl, Or.inr ⟨fun q => q.elim (nlt h_3) (nlt h_10), Or.inl ⟨h_30, rfl⟩⟩⟩
    · refine z_iconst (v := (-1)) F dX7_seen_13 (by decide) ?_
      refine z_iret F X dX7_seen_14 ?_
      refine ⟨rfl, Or.inl ⟨?_, rfl⟩⟩
      first | exact Or.inl h_3 | exact Or.inr h_10
end
section
/-- what a film shows -/
def filmL (rb th pe : zF1) (np : Nat) (ln : Int32) : Nat → Nat → zF1 × Int32 → (Nat → Int64) → (Nat → Int64)
  | 0, _, _, f => f
  | j + 1, k, s, f => filmL rb th pe np ln j (k + 1) (passF rb th pe np 1 s) (va_up f k (putF ln ((passF rb th pe np 1 s).1 0).toInt64))
theorem c_X7_film {l : Launch} {w : zE} (J : zJ w) {M : zM} {o np a L : Nat} {x ln i : Int32} (hk : zk o = 7) (ho : o = 0) (ok : nowOK M (o + 1) np a) (hL : M.1 (o + 129 + 1 + 2 * x.toNatClampNeg) 2 = nI L) (h16 : L ≤ 16) : zCi l w yX7_film cX7_film 7 (some .int) 5 [.ref (w.2.2 o), .int x, .int ln, .int i] M (fun r M2 => rowS M o x ln i (nI (12 - a)) < 0 ∧ M2 = M ∧ r = rowS M o x ln i (nI (12 - a)) ∨ ¬ rowS M o x ln i (nI (12 - a)) < 0 ∧ r = nI (12 - a) ∧ (∀ b, (b < 87 ∨ 129 ≤ b) → M2.1 b = M.1 b) ∧ ∃ q, i = nI q ∧ q + (12 - a) ≤ 16 ∧ M2.2 = va_up M.2 (o + 129 + 1 + 2 * x.toNatClampNeg + 1) (filmL (M.1 (o + 1 + 1)) (M.1 (o + 1 + 1 + 1)) (M.1 (o + 1 + 1 + 12)) np ln (12 - a) q (M.1 (o + 1 + 15), -4) (M.2 (o + 129 + 1 + 2 * x.toNatClampNeg + 1)))) := by
  obtain ⟨o1, o2, o3, o4, o5⟩ := id ok
  have hsub : 12 - nI a = nI (12 - a) := pk_sub (a := 12) (b := a) o5
  refine zCi_of J zm_X7_film [some (.ref (w.2.2 o)), some (.int x), some (.int ln), some (.int i), none, none, none] (Nat.le_of_ble_eq_true rfl) rfl (fun g hg F X => ?_)
  subst hg
  generalize hs : o + 129 + 1 + 2 * x.toNatClampNeg = s at X
  have key : ∀ (q : Nat) (y : Int32), ¬ (x < 0 ∨ 3 < x) → zk s = 2 → M.1 s 1 = ln → i = nI q → q + (12 - a) ≤ 16 → ¬ rowS M o x ln i (nI (12 - a)) < 0 → ∀ (j k : Nat) (S : zF1 × Int32) (f : Nat → Int64) (M' : zM), k + j = q + (12 - a) → q ≤ k → (∀ b, (b < 87 ∨ 129 ≤ b) → M'.1 b = M.1 b) → M'.1 (o + 87 + 1) = M.1 (o + 1 + 1) → M'.1 (o + 87 + 1 + 1) = M.1 (o + 1 + 1 + 1) → M'.1 (o + 87 + 1 + 12) = M.1 (o + 1 + 1 + 12) → M'.1 (o + 87 + 15) = S.1 → M'.1 (o + 87 + 15 + 1) 0 = S.2 → M'.2 = va_up M.2 (s + 1) f → filmL (M.1 (o + 1 + 1)) (M.1 (o + 1 + 1 + 1)) (M.1 (o + 1 + 1 + 12)) np ln j k S f = filmL (M.1 (o + 1 + 1)) (M.1 (o + 1 + 1 + 1)) (M.1 (o + 1 + 1 + 12)) np ln (12 - a) q (M.1 (o + 1 + 15), -4) (M.2 (s + 1)) → ZW w g 7 48 [some (.ref (w.2.2 o)), some (.int x), some (.int ln), some (.int i), some (.int (nI (12 - a))), some (.int y), some (.int (nI k))] [] M' := by
    intro q y hx hk2 hln hiq hq16 hF j
    have e3 : i + nI (12 - a) = nI (q + (12 - a)) := by rw [hiq, nI_add]
    have hsb : s = o + 129 + 1 + 2 * x.toNatClampNeg := hs.symm
    induction j with
    | zero =>
      intro k S f M' hkj hqk m0 m1 m2 m3 m4 m5 m6 hse
      refine z_iload F dX7_film_48 rfl ?_
      refine z_iload_n F dX7_film_50 rfl ?_
      refine z_iload F dX7_film_51 rfl ?_
      refine z_iadd F dX7_film_53 ?_
      refine z_ic_ge (tgt := 104) F dX7_film_54 (by decide) (fun h_54 => ?_) (fun h_54 => absurd h_54 (by rw [e3, show k = q + (12 - a) by omega]; exact nlt (Int32.le_refl _)))
      refine z_iload F dX7_film_104 rfl ?_
      refine z_iret F X dX7_film_106 ?_
      exact Or.inr ⟨hF, rfl, m0, q, hiq, hq16, by rw [m6, ← hse]; rfl⟩
    | succ j ih =>
      intro k S f M' hkj hqk m0 m1 m2 m3 m4 m5 m6 hse
      refine z_iload F dX7_film_48 rfl ?_
      refine z_iload_n F dX7_film_50 rfl ?_
      refine z_iload F dX7_film_51 rfl ?_
      refine z_iadd F dX7_film_53 ?_
      refine z_ic_ge (tgt := 104) F dX7_film_54 (by decide) (fun h_54 => absurd h_54 (by rw [e3]; exact nle (nI_lt (by omega) (by omega)))) (fun h_54 => ?_)
      refine z_aload_n F dX7_film_57 rfl ?_
      refine zg_X7_foresight F (by with_reducible assumption) fl_X7_29 dX7_film_58 (fun hk_58 => ?_)
      refine zg_X0_road F (by with_reducible assumption) fl_X7_242 dX7_film_61 (fun hk_61 => ?_)
      refine z_aload_n F dX7_film_64 rfl ?_
      refine zg_X7_foresight F (by with_reducible assumption) fl_X7_29 dX7_film_65 (fun hk_65 => ?_)
      refine zg_X0_trip F (by with_reducible assumption) fl_X7_209 dX7_film_68 (fun hk_68 => ?_)
      refine z_iconst (v := 1) F dX7_film_71 (by decide) ?_
      refine z_callVi F (c_X1_pass J (by with_reducible assumption) (by with_reducible assumption) (by rw [m1]; exact o1) (np := np) (by rw [m1]; exact o2) (by omega)) zm_X1_pass zv_X1_pass ml_X7_174 (by with_reducible assumption) (by decide) rfl rfl rfl (Nat.le_of_ble_eq_true rfl) dX7_film_72 (by omega) (fun r_72 M_72 h_72 => ?_)
      obtain ⟨e_72, rfl⟩ := h_72
      replace e_72 := Eq.symm e_72
      subst e_72
      refine z_pop F dX7_film_75 rfl ?_
      rw [m1, m2, m3, m4, m5]
      refine z_aload_n F dX7_film_76 rfl ?_
      refine zg_X7_sheets F (by with_reducible assumption) fl_X7_35 dX7_film_77 (fun hk_77 => ?_)
      refine z_iload_n F dX7_film_80 rfl ?_
      refine z_aald15 F (by with_reducible assumption) (in4 hx) dX7_film_81 (fun hk_81 => ?_)
      refine z_iload F dX7_film_82 rfl ?_
      refine z_aload_n F dX7_film_84 rfl ?_
      refine zg_X7_foresight F (by with_reducible assumption) fl_X7_29 dX7_film_85 (fun hk_85 => ?_)
      refine zg_X0_trip F (by with_reducible assumption) fl_X7_209 dX7_film_88 (fun hk_88 => ?_)
      refine zg_X5_his F (by with_reducible assumption) fl_X7_123 dX7_film_91 ?_
      try simp only [zt_t]
      refine z_i2l F dX7_film_94 ?_
      refine z_callVv F (c_X2_put J (by with_reducible assumption) (by omega)) zm_X2_put zv_X2_put ml_X7_243 (by with_reducible assumption) (by decide) rfl rfl rfl (Nat.le_of_ble_eq_true rfl) dX7_film_95 (by omega) (fun M_95 h_95 => ?_)
      replace h_95 := Eq.symm h_95
      subst h_95
      refine z_iincc (c := 1) (lv' := [_, _, _, _, _, _, _]) F dX7_film_98 rfl (by decide) (by decide) rfl rfl ?_
      refine z_goto (tgt := 48) F dX7_film_101 (by decide) ?_
      rw [nI_1]
      rw [hs]
      have g1 : (zt M' (o + 87 + 15) (passF (M.1 (o + 1 + 1)) (M.1 (o + 1 + 1 + 1)) (M.1 (o + 1 + 1 + 12)) np 1 (S.1, S.2)).1 (passF (M.1 (o + 1 + 1)) (M.1 (o + 1 + 1 + 1)) (M.1 (o + 1 + 1 + 12)) np 1 (S.1, S.2)).2).1 s 1 = ln := by rw [zt_off (by omega) (by omega), m0 s (by omega)]; exact hln
      rw [g1]
      refine ih (k + 1) (passF (M.1 (o + 1 + 1)) (M.1 (o + 1 + 1 + 1)) (M.1 (o + 1 + 1 + 12)) np 1 S) _ _ (by omega) (by omega) (fun b hb => ?_) ?_ ?_ ?_ ?_ ?_ ?_ hse
      · exact (zt_off (by omega) (by omega)).trans (m0 b hb)
      · exact (zt_off (by omega) (by omega)).trans m1
      · exact (zt_off (by omega) (by omega)).trans m2
      · exact (zt_off (by omega) (by omega)).trans m3
      · exact zt_t _ _ _ _
      · exact (congrFun (zt_r _ _ _ _) 0).trans (va_up_self _ _ _)
      · show va_up M'.2 (s + 1) (va_up (M'.2 (s + 1)) k _) = _
        rw [m6, va_up_self, bx_uu]
  refine z_bipush (v := 12) F dX7_film_0 (by decide) ?_
  refine z_aload_n F dX7_film_2 rfl ?_
  refine zg_X7_now F (by with_reducible assumption) fl_X7_10 dX7_film_3 (fun hk_3 => ?_)
  refine zg_X6_trip F (by with_reducible assumption) fl_X7_83 dX7_film_6 (fun hk_6 => ?_)
  refine zg_X5_ahead F (by with_reducible assumption) fl_X7_130 dX7_film_9 ?_
  try simp only [o4]
  refine z_isub F dX7_film_12 ?_
  rw [hsub]
  refine z_istore (lv' := [_, _, _, _, _, _, _]) F dX7_film_13 (by decide) rfl rfl ?_
  refine z_aload_n F dX7_film_15 rfl ?_
  refine z_iload_n F dX7_film_16 rfl ?_
  refine z_iload_n F dX7_film_17 rfl ?_
  refine z_iload_n F dX7_film_18 rfl ?_
  refine z_iload F dX7_film_19 rfl ?_
  refine z_callVi F (c_X7_rowFault J hk) zm_X7_rowFault zv_X7_rowFault ml_X7_229 (by with_reducible assumption) (by decide) rfl rfl rfl (Nat.le_of_ble_eq_true rfl) dX7_film_21 (by omega) (fun r_21 M_21 h_21 => ?_)
  obtain ⟨e_21, rfl⟩ := h_21
  replace e_21 := Eq.symm e_21
  subst e_21
  refine z_istore (lv' := [_, _, _, _, _, _, _]) F dX7_film_24 (by decide) rfl rfl ?_
  refine z_iload F dX7_film_26 rfl ?_
  refine z_if_ge (tgt := 34) F dX7_film_28 (by decide) (fun h_28 => ?_) (fun h_28 => ?_)
  · try simp only [o4] at h_28
    refine z_aload_n F dX7_film_34 rfl ?_
    refine zg_X7_foresight F (by with_reducible assumption) fl_X7_29 dX7_film_35 (fun hk_35 => ?_)
    refine z_aload_n F dX7_film_38 rfl ?_
    refine zg_X7_now F (by with_reducible assumption) fl_X7_10 dX7_film_39 (fun hk_39 => ?_)
    refine z_callVv F (c_X0_begin J (by with_reducible assumption) (by with_reducible assumption) (by omega) (by omega)) zm_X0_begin zv_X0_begin ml_X7_239 (by with_reducible assumption) (by decide) rfl rfl rfl (Nat.le_of_ble_eq_true rfl) dX7_film_42 (by omega) (fun M_42 h_42 => ?_)
    replace h_42 := Eq.symm h_42
    subst h_42
    refine z_iload_n F dX7_film_45 rfl ?_
    refine z_istore (lv' := [_, _, _, _, _, _, _]) F dX7_film_46 (by decide) rfl rfl ?_
    obtain ⟨r1, r2, r3, r4, r5, r6, r7, r8, r9⟩ := rowS_ok (nlt h_28)
    obtain ⟨q, k, rfl, e6, e7⟩ := rng_n hL h16 r5 r6 r7 r8
    have e8 : 12 - a = k := (nI_eq (by omega) (by omega)).mp e6
    have z15 := (zkf7 o (zk_i hk (by decide)) hk).2.2.2.2
    have zx := zkf15 (o + 129) (zk_i z15 (by decide)) z15 x.toNatClampNeg (Nat.not_le.mp fun q => in4 r1 (Or.inr q))
    rw [hs] at zx
    refine key q _ r1 zx (by rw [← hs]; exact r4) rfl (by omega) (nlt h_28) (12 - a) q (M.1 (o + 1 + 15), -4) (M.2 (s + 1)) _ rfl (by omega) (fun b hb => ?_) (zbeg_rb _ _ _) (zbeg_th _ _ _) (zbeg_pe _ _ _) (zbeg_T _ _ _) (zbeg_r _ _ _) ?_ rfl
    · exact zbeg_off M (by omega)
    · show M.2 = _
      exact (va_up_id M.2 (s + 1)).symm
  · try simp only [o4] at h_28
    refine z_iload F dX7_film_31 rfl ?_
    refine z_iret F X dX7_film_33 ?_
    exact Or.inl ⟨h_28, rfl, rfl⟩
/-- whether so many items can be dealt -/
def dealL (f : Nat → Int64) (nt : Int32) : Nat → Nat → Int32 → Bool
  | 0, _, _ => true
  | j + 1, k, d => if f k < 0 then dealL f nt j (k + 1) d else if nt.toInt64 ≤ f k then false else if d &&& ((1 : Int32) <<< ((f k).toInt32 &&& 31)) = 0 then dealL f nt j (k + 1) (d ||| ((1 : Int32) <<< ((f k).toInt32 &&& 31))) else false
theorem c_X7_canDeal {l : Launch} {w : zE} (J : zJ w) {M : zM} {o s a np : Nat} (hk : zk o = 7) (hs : zk s = 14) (hz : zn s = 16) (h16 : a + np ≤ 16) : zCi l w yX7_canDeal cX7_canDeal 7 (some .boolean) 2 [.ref (w.2.2 o), .ref (w.2.2 s), .int (nI a), .int (nI np)] M (fun r M2 => M2 = M ∧ r = bI (dealL (M.2 s) (M.1 (o + 1 + 1) 0) np a (if 0 ≤ M.1 (o + 1 + 15) 0 ∧ M.1 (o + 1 + 15) 0 < M.1 (o + 1 + 1) 0 then (1 : Int32) <<< (M.1 (o + 1 + 15) 0 &&& 31) else 0) = true)) := by
  refine zCi_of J zm_X7_canDeal [some (.ref (w.2.2 o)), some (.ref (w.2.2 s)), some (.int (nI a)), some (.int (nI np)), none, none, none] (Nat.le_of_ble_eq_true rfl) rfl (fun g hg F X => ?_)
  subst hg
  generalize hD : (if 0 ≤ M.1 (o + 1 + 15) 0 ∧ M.1 (o + 1 + 15) 0 < M.1 (o + 1 + 1) 0 then (1 : Int32) <<< (M.1 (o + 1 + 15) 0 &&& 31) else 0) = D0 at X
  generalize hR : dealL (M.2 s) (M.1 (o + 1 + 1) 0) np a D0 = R at X
  have key : ∀ (j k : Nat) (d : Int32) (x6 : Option Value), k + j = a + np → a ≤ k → zok [none, none, none, none, none, none, x6] 6 = true → dealL (M.2 s) (M.1 (o + 1 + 1) 0) j k d = R → ZW w g 7 44 [some (.ref (w.2.2 o)), some (.ref (w.2.2 s)), some (.int (nI a)), some (.int (nI np)), some (.int d), some (.int (nI k)), x6] [] M := by
    intro j
    induction j with
    | zero =>
      intro k d x6 hkj hak hok hse
      refine z_iload F dX7_canDeal_44 rfl ?_
      refine z_iload_n F dX7_canDeal_46 rfl ?_
      refine z_iload_n F dX7_canDeal_47 rfl ?_
      refine z_iadd F dX7_canDeal_48 ?_
      refine z_ic_ge (tgt := 117) F dX7_canDeal_49 (by decide) (fun h_49 => ?_) (fun h_49 => absurd h_49 (by rw [nI_add, show k = a + np by omega]; exact nlt (Int32.le_refl _)))
      refine z_iconst (v := 1) F dX7_canDeal_117 (by decide) ?_
      refine z_zret F X dX7_canDeal_118 (by decide) ?_
      exact ⟨rfl, bI_t hse.symm⟩
    | succ j ih =>
      intro k d x6 hkj hak hok hse
      have c0 : (nI k).toNatClampNeg = k := nI_clamp (by omega)
      rw [dealL] at hse
      refine z_iload F dX7_canDeal_44 rfl ?_
      refine z_iload_n F dX7_canDeal_46 rfl ?_
      refine z_iload_n F dX7_canDeal_47 rfl ?_
      refine z_iadd F dX7_canDeal_48 ?_
      refine z_ic_ge (tgt := 117) F dX7_canDeal_49 (by decide) (fun h_49 => absurd h_49 (by rw [nI_add]; exact nle (nI_lt (by omega) (by omega)))) (fun h_49 => ?_)
      refine z_aload_n F dX7_canDeal_52 rfl ?_
      refine z_iload F dX7_canDeal_53 rfl ?_
      refine z_lald14 F (by with_reducible assumption) (by rw [hz]; exact vp_in_nI (by omega) (by omega)) dX7_canDeal_55 ?_
      try simp only [c0, lg_cmp_ge, lg_cmp_lt]
      refine z_lconst (v := 0) F dX7_canDeal_56 (by decide) ?_
      refine z_lcmp F dX7_canDeal_57 ?_
      refine z_if_ge (tgt := 64) F dX7_canDeal_58 (by decide) (fun h_58 => ?_) (fun h_58 => ?_)
      · try simp only [c0, lg_cmp_ge, lg_cmp_lt] at h_58
        refine z_aload_n F dX7_canDeal_64 rfl ?_
        refine z_iload F dX7_canDeal_65 rfl ?_
        refine z_lald14 F (by with_reducible assumption) (by rw [hz]; exact vp_in_nI (by omega) (by omega)) dX7_canDeal_67 ?_
        try simp only [c0, lg_cmp_ge, lg_cmp_lt]
        refine z_aload_n F dX7_canDeal_68 rfl ?_
        refine zg_X7_now F (by with_reducible assumption) fl_X7_10 dX7_canDeal_69 (fun hk_69 => ?_)
        refine zg_X6_road F (by with_reducible assumption) fl_X7_44 dX7_canDeal_72 (fun hk_72 => ?_)
        refine zg_X1_thingCount F (by with_reducible assumption) fl_X7_48 dX7_canDeal_75 ?_
        try simp only [c0, lg_cmp_ge, lg_cmp_lt]
        refine z_i2l F dX7_canDeal_78 ?_
        refine z_lcmp F dX7_canDeal_79 ?_
        refine z_if_lt (tgt := 85) F dX7_canDeal_80 (by decide) (fun h_80 => ?_) (fun h_80 => ?_)
        · try simp only [c0, lg_cmp_ge, lg_cmp_lt] at h_80
          refine z_iconst (v := 1) F dX7_canDeal_85 (by decide) ?_
          refine z_aload_n F dX7_canDeal_86 rfl ?_
          refine z_iload F dX7_canDeal_87 rfl ?_
          refine z_lald14 F (by with_reducible assumption) (by rw [hz]; exact vp_in_nI (by omega) (by omega)) dX7_canDeal_89 ?_
          try simp only [c0, lg_cmp_ge, lg_cmp_lt]
          refine z_l2i F dX7_canDeal_90 ?_
          refine z_ishl F dX7_canDeal_91 ?_
          refine z_istore (lv' := [_, _, _, _, _, _, _]) F dX7_canDeal_92 (by decide) rfl rfl ?_
          refine z_iload F dX7_canDeal_94 rfl ?_
          refine z_iload F dX7_canDeal_96 rfl ?_
          refine z_iand F dX7_canDeal_98 ?_
          refine z_if_eq (tgt := 104) F dX7_canDeal_99 (by decide) (fun h_99 => ?_) (fun h_99 => ?_)
          · try simp only [c0, lg_cmp_ge, lg_cmp_lt] at h_99
            refine z_iload F dX7_canDeal_104 rfl ?_
            refine z_iload F dX7_canDeal_106 rfl ?_
            refine z_ior F dX7_canDeal_108 ?_
            refine z_istore (lv' := [_, _, _, _, _, _, _]) F dX7_canDeal_109 (by decide) rfl rfl ?_
            refine z_iincc (c := 1) (lv' := [_, _, _, _, _, _, _]) F dX7_canDeal_111 rfl (by decide) (by decide) rfl rfl ?_
            refine z_goto (tgt := 44) F dX7_canDeal_114 (by decide) ?_
            rw [nI_1]
            rw [if_neg (Int64.not_lt.mpr h_58), if_neg (Int64.not_le.mpr h_80), if_pos h_99] at hse
            exact ih (k + 1) _ _ (by omega) (by omega) rfl hse
          · try simp only [c0, lg_cmp_ge, lg_cmp_lt] at h_99
            refine z_iconst (v := 0) F dX7_canDeal_102 (by decide) ?_
            refine z_zret F X dX7_canDeal_103 (by decide) ?_
            rw [if_neg (Int64.not_lt.mpr h_58), if_neg (Int64.not_le.mpr h_80), if_neg h_99] at hse
            exact ⟨rfl, bI_f (by rw [← hse]; decide)⟩
        · try simp only [c0, lg_cmp_ge, lg_cmp_lt] at h_80
          refine z_iconst (v := 0) F dX7_canDeal_83 (by decide) ?_
          refine z_zret F X dX7_canDeal_84 (by decide) ?_
          rw [if_neg (Int64.not_lt.mpr h_58), if_pos h_80] at hse
          exact ⟨rfl, bI_f (by rw [← hse]; decide)⟩
      · try simp only [c0, lg_cmp_ge, lg_cmp_lt] at h_58
        refine z_goto (tgt := 111) F dX7_canDeal_61 (by decide) ?_
        refine z_iincc (c := 1) (lv' := [_, _, _, _, _, _, _]) F dX7_canDeal_111 rfl (by decide) (by decide) rfl rfl ?_
        refine z_goto (tgt := 44) F dX7_canDeal_114 (by decide) ?_
        rw [nI_1]
        rw [if_pos h_58] at hse
        exact ih (k + 1) _ _ (by omega) (by omega) hok hse
  refine z_aload_n F dX7_canDeal_0 rfl ?_
  refine zg_X7_now F (by with_reducible assumption) fl_X7_10 dX7_canDeal_1 (fun hk_1 => ?_)
  refine zg_X6_road F (by with_reducible assumption) fl_X7_44 dX7_canDeal_4 (fun hk_4 => ?_)
  refine z_aload_n F dX7_canDeal_7 rfl ?_
  refine zg_X7_now F (by with_reducible assumption) fl_X7_10 dX7_canDeal_8 (fun hk_8 => ?_)
  refine zg_X6_trip F (by with_reducible assumption) fl_X7_83 dX7_canDeal_11 (fun hk_11 => ?_)
  refine zg_X5_his F (by with_reducible assumption) fl_X7_123 dX7_canDeal_14 ?_
  refine z_callVi F (c_X1_isThing J (by with_reducible assumption)) zm_X1_isThing zv_X1_isThing ml_X7_61 (by with_reducible assumption) (by decide) rfl rfl rfl (Nat.le_of_ble_eq_true rfl) dX7_canDeal_17 (by omega) (fun r_17 M_17 h_17 => ?_)
  obtain ⟨e_17, rfl⟩ := h_17
  replace e_17 := Eq.symm e_17
  subst e_17
  refine z_if_eq (tgt := 38) F dX7_canDeal_20 (by decide) (fun h_20 => ?_) (fun h_20 => ?_)
  · replace h_20 := bI_0.mp h_20
    refine z_iconst (v := 0) F dX7_canDeal_38 (by decide) ?_
    refine z_istore (lv' := [_, _, _, _, _, _, _]) F dX7_canDeal_39 (by decide) rfl rfl ?_
    refine z_iload_n F dX7_canDeal_41 rfl ?_
    refine z_istore (lv' := [_, _, _, _, _, _, _]) F dX7_canDeal_42 (by decide) rfl rfl ?_
    rw [if_neg h_20] at hD
    rw [hD]
    exact key np a D0 none (by omega) (by omega) rfl hR
  · replace h_20 := bI_1.mp h_20
    refine z_iconst (v := 1) F dX7_canDeal_23 (by decide) ?_
    refine z_aload_n F dX7_canDeal_24 rfl ?_
    refine zg_X7_now F (by with_reducible assumption) fl_X7_10 dX7_canDeal_25 (fun hk_25 => ?_)
    refine zg_X6_trip F (by with_reducible assumption) fl_X7_83 dX7_canDeal_28 (fun hk_28 => ?_)
    refine zg_X5_his F (by with_reducible assumption) fl_X7_123 dX7_canDeal_31 ?_
    refine z_ishl F dX7_canDeal_34 ?_
    refine z_goto (tgt := 39) F dX7_canDeal_35 (by decide) ?_
    refine z_istore (lv' := [_, _, _, _, _, _, _]) F dX7_canDeal_39 (by decide) rfl rfl ?_
    refine z_iload_n F dX7_canDeal_41 rfl ?_
    refine z_istore (lv' := [_, _, _, _, _, _, _]) F dX7_canDeal_42 (by decide) rfl rfl ?_
    rw [if_pos h_20] at hD
    rw [hD]
    exact key np a D0 none (by omega) (by omega) rfl hR
/-- what the people have then -/
def dealT (T : zF1) (f : Nat → Int64) (a : Nat) (k : Nat) : zF1 := fun q => if 5 ≤ q ∧ q < 5 + k then (if f (a + (q - 5)) < 0 then -4 else (f (a + (q - 5))).toInt32) else T q
theorem dealT_s (T : zF1) (f : Nat → Int64) (a k : Nat) {v : Int32} (hv : v = if f (a + k) < 0 then -4 else (f (a + k)).toInt32) : va_up (dealT T f a k) (5 + k) v = dealT T f a (k + 1) := by
  funext q
  unfold va_up dealT
  by_cases e : q = 5 + k
  · subst e
    rw [if_pos rfl, if_pos (by omega), hv, show 5 + k - 5 = k by omega]
  · rw [if_neg e]
    by_cases e2 : 5 ≤ q ∧ q < 5 + k
    · exact (if_pos e2).trans (if_pos (show 5 ≤ q ∧ q < 5 + (k + 1) by omega)).symm
    · exact (if_neg e2).trans (if_neg (show ¬ (5 ≤ q ∧ q < 5 + (k + 1)) by omega)).symm
theorem c_X7_deal {l : Launch} {w : zE} (J : zJ w) {M : zM} {o np L : Nat} {x ln i : Int32} (hk : zk o = 7) (ho : o = 0) (hnp : M.1 (o + 1 + 1) 1 = nI np) (h8 : np ≤ 8) (hL : M.1 (o + 129 + 1 + 2 * x.toNatClampNeg) 2 = nI L) (h16 : L ≤ 16) : zCi l w yX7_deal cX7_deal 10 (some .int) 3 [.ref (w.2.2 o), .int x, .int ln, .int i] M (fun r M2 => rowS M o x ln i (nI np) < 0 ∧ M2 = M ∧ r = rowS M o x ln i (nI np) ∨ ¬ rowS M o x ln i (nI np) < 0 ∧ ∃ a, i = nI a ∧ a + np ≤ 16 ∧ (¬ dealL (M.2 (o + 129 + 1 + 2 * x.toNatClampNeg + 1)) (M.1 (o + 1 + 1) 0) np a (if 0 ≤ M.1 (o + 1 + 15) 0 ∧ M.1 (o + 1 + 15) 0 < M.1 (o + 1 + 1) 0 then (1 : Int32) <<< (M.1 (o + 1 + 15) 0 &&& 31) else 0) = true ∧ M2 = M ∧ r = -2 ∨ dealL (M.2 (o + 129 + 1 + 2 * x.toNatClampNeg + 1)) (M.1 (o + 1 + 1) 0) np a (if 0 ≤ M.1 (o + 1 + 15) 0 ∧ M.1 (o + 1 + 15) 0 < M.1 (o + 1 + 1) 0 then (1 : Int32) <<< (M.1 (o + 1 + 15) 0 &&& 31) else 0) = true ∧ r = nI np ∧ M2 = za M (o + 1 + 15) (dealT (M.1 (o + 1 + 15)) (M.2 (o + 129 + 1 + 2 * x.toNatClampNeg + 1)) a np))) := by
  refine zCi_of J zm_X7_deal [some (.ref (w.2.2 o)), some (.int x), some (.int ln), some (.int i), none, none, none, none, none, none] (Nat.le_of_ble_eq_true rfl) rfl (fun g hg F X => ?_)
  subst hg
  generalize hs : o + 129 + 1 + 2 * x.toNatClampNeg = s at X
  generalize hD : (if 0 ≤ M.1 (o + 1 + 15) 0 ∧ M.1 (o + 1 + 15) 0 < M.1 (o + 1 + 1) 0 then (1 : Int32) <<< (M.1 (o + 1 + 15) 0 &&& 31) else 0) = D0 at X
  have key : ∀ (a : Nat) (y : Int32), zk (s + 1) = 14 → zn (s + 1) = 16 → i = nI a → a + np ≤ 16 → ¬ rowS M o x ln i (nI np) < 0 → dealL (M.2 (s + 1)) (M.1 (o + 1 + 1) 0) np a D0 = true → ∀ (j k : Nat) (x8 : Option Value), k + j = np → zok [none, none, none, none, none, none, none, none, x8, none] 8 = true → ZW w g 10 60 [some (.ref (w.2.2 o)), some (.int x), some (.int ln), some (.int i), some (.int (nI np)), some (.int y), some (.ref (w.2.2 (s + 1))), some (.int (nI k)), x8, none] [] (za M (o + 1 + 15) (dealT (M.1 (o + 1 + 15)) (M.2 (s + 1)) a k)) := by
    intro a y hk14 hz hia ha hF hc j
    induction j with
    | zero =>
      intro k x8 hkj hok
      refine z_iload F dX7_deal_60 rfl ?_
      refine z_iload F dX7_deal_62 rfl ?_
      refine z_ic_ge (tgt := 110) F dX7_deal_64 (by decide) (fun h_64 => ?_) (fun h_64 => absurd h_64 (by rw [show k = np by omega]; exact nlt (Int32.le_refl _)))
      refine z_iload F dX7_deal_110 rfl ?_
      refine z_iret F X dX7_deal_112 ?_
      refine Or.inr ⟨hF, a, hia, ha, Or.inr ⟨hc, rfl, ?_⟩⟩
      rw [show k = np by omega]
    | succ j ih =>
      intro k x8 hkj hok
      have c0 : (nI k).toNatClampNeg = k := nI_clamp (by omega)
      have c1 : (i + nI k).toNatClampNeg = a + k := by rw [hia, nI_add]; exact nI_clamp (by omega)
      have c2 : ∀ f, (za M (o + 1 + 15) f).2 (s + 1) = M.2 (s + 1) := fun f => rfl
      refine z_iload F dX7_deal_60 rfl ?_
      refine z_iload F dX7_deal_62 rfl ?_
      refine z_ic_ge (tgt := 110) F dX7_deal_64 (by decide) (fun h_64 => absurd h_64 (nle (nI_lt (by omega) (by omega)))) (fun h_64 => ?_)
      refine z_aload F dX7_deal_67 rfl ?_
      refine z_iload_n F dX7_deal_69 rfl ?_
      refine z_iload F dX7_deal_70 rfl ?_
      refine z_iadd F dX7_deal_72 ?_
      refine z_lald14 F (by with_reducible assumption) (by rw [hz, hia, nI_add]; exact vp_in_nI (by omega) (by omega)) dX7_deal_73 ?_
      try simp only [c0, c1, c2, lg_cmp_ge, lg_cmp_lt]
      refine z_lstore (lv' := [_, _, _, _, _, _, _, _, _, _]) F dX7_deal_74 (by decide) rfl rfl ?_
      refine z_aload_n F dX7_deal_76 rfl ?_
      refine zg_X7_now F (by with_reducible assumption) fl_X7_10 dX7_deal_77 (fun hk_77 => ?_)
      refine zg_X6_trip F (by with_reducible assumption) fl_X7_83 dX7_deal_80 (fun hk_80 => ?_)
      refine zg_X5_theirs F (by with_reducible assumption) fl_X7_115 dX7_deal_83 (fun hk_83 => ?_)
      refine z_iload F dX7_deal_86 rfl ?_
      refine z_lload F dX7_deal_88 rfl ?_
      refine z_lconst (v := 0) F dX7_deal_90 (by decide) ?_
      refine z_lcmp F dX7_deal_91 ?_
      refine z_if_ge (tgt := 100) F dX7_deal_92 (by decide) (fun h_92 => ?_) (fun h_92 => ?_)
      · try simp only [c0, c1, c2, lg_cmp_ge, lg_cmp_lt] at h_92
        refine z_lload F dX7_deal_100 rfl ?_
        refine z_l2i F dX7_deal_102 ?_
        refine z_iast11 F (by with_reducible assumption) (vp_in_nI (by omega) (by omega)) dX7_deal_103 ?_
        refine z_iincc (c := 1) (lv' := [_, _, _, _, _, _, _, _, _, _]) F dX7_deal_104 rfl (by decide) (by decide) rfl rfl ?_
        refine z_goto (tgt := 60) F dX7_deal_107 (by decide) ?_
        rw [nI_1, zs_za, za_at, za_za, c0, dealT_s (M.1 (o + 1 + 15)) (M.2 (s + 1)) a k (if_neg (Int64.not_lt.mpr h_92)).symm]
        exact ih (k + 1) _ (by omega) rfl
      · try simp only [c0, c1, c2, lg_cmp_ge, lg_cmp_lt] at h_92
        refine z_bipush (v := (-4)) F dX7_deal_95 (by decide) ?_
        refine z_goto (tgt := 103) F dX7_deal_97 (by decide) ?_
        refine z_iast11 F (by with_reducible assumption) (vp_in_nI (by omega) (by omega)) dX7_deal_103 ?_
        refine z_iincc (c := 1) (lv' := [_, _, _, _, _, _, _, _, _, _]) F dX7_deal_104 rfl (by decide) (by decide) rfl rfl ?_
        refine z_goto (tgt := 60) F dX7_deal_107 (by decide) ?_
        rw [nI_1, zs_za, za_at, za_za, c0, dealT_s (M.1 (o + 1 + 15)) (M.2 (s + 1)) a k (if_pos h_92).symm]
        exact ih (k + 1) _ (by omega) rfl
  refine z_aload_n F dX7_deal_0 rfl ?_
  refine zg_X7_now F (by with_reducible assumption) fl_X7_10 dX7_deal_1 (fun hk_1 => ?_)
  refine zg_X6_road F (by with_reducible assumption) fl_X7_44 dX7_deal_4 (fun hk_4 => ?_)
  refine zg_X1_personCount F (by with_reducible assumption) fl_X7_101 dX7_deal_7 ?_
  try simp only [hnp]
  refine z_istore (lv' := [_, _, _, _, _, _, _, _, _, _]) F dX7_deal_10 (by decide) rfl rfl ?_
  refine z_aload_n F dX7_deal_12 rfl ?_
  refine z_iload_n F dX7_deal_13 rfl ?_
  refine z_iload_n F dX7_deal_14 rfl ?_
  refine z_iload_n F dX7_deal_15 rfl ?_
  refine z_iload F dX7_deal_16 rfl ?_
  refine z_callVi F (c_X7_rowFault J hk) zm_X7_rowFault zv_X7_rowFault ml_X7_229 (by with_reducible assumption) (by decide) rfl rfl rfl (Nat.le_of_ble_eq_true rfl) dX7_deal_18 (by omega) (fun r_18 M_18 h_18 => ?_)
  obtain ⟨e_18, rfl⟩ := h_18
  replace e_18 := Eq.symm e_18
  subst e_18
  refine z_istore (lv' := [_, _, _, _, _, _, _, _, _, _]) F dX7_deal_21 (by decide) rfl rfl ?_
  refine z_iload F dX7_deal_23 rfl ?_
  refine z_if_ge (tgt := 31) F dX7_deal_25 (by decide) (fun h_25 => ?_) (fun h_25 => ?_)
  · try simp only [hnp] at h_25
    refine z_aload_n F dX7_deal_31 rfl ?_
    refine zg_X7_sheets F (by with_reducible assumption) fl_X7_35 dX7_deal_32 (fun hk_32 => ?_)
    refine z_iload_n F dX7_deal_35 rfl ?_
    refine z_aald15 F (by with_reducible assumption) (in4 (rowS_ok (nlt h_25)).1) dX7_deal_36 (fun hk_36 => ?_)
    refine zg_X2_items F (by with_reducible assumption) fl_X7_232 dX7_deal_37 (fun hk_37 => ?_)
    refine z_astore (lv' := [_, _, _, _, _, _, _, _, _, _]) F dX7_deal_40 (by decide) rfl rfl ?_
    rw [hs] at hk_36 hk_37 ⊢
    obtain ⟨r1, r2, r3, r4, r5, r6, r7, r8, r9⟩ := rowS_ok (nlt h_25)
    obtain ⟨a, k, rfl, e6, e7⟩ := rng_n hL h16 r5 r6 r7 r8
    have e8 : np = k := (nI_eq (by omega) (by omega)).mp e6
    have hz := zn_sheet s (zk_i hk_36 (by decide)) hk_36
    refine z_aload_n F dX7_deal_42 rfl ?_
    refine z_aload F dX7_deal_43 rfl ?_
    refine z_iload_n F dX7_deal_45 rfl ?_
    refine z_iload F dX7_deal_46 rfl ?_
    refine z_callVi F (c_X7_canDeal J hk hk_37 hz (by omega)) zm_X7_canDeal zv_X7_canDeal ml_X7_247 (by with_reducible assumption) (by decide) rfl rfl rfl (Nat.le_of_ble_eq_true rfl) dX7_deal_48 (by omega) (fun r_48 M_48 h_48 => ?_)
    obtain ⟨e_48, rfl⟩ := h_48
    replace e_48 := Eq.symm e_48
    subst e_48
    rw [hD]
    refine z_if_ne (tgt := 57) F dX7_deal_51 (by decide) (fun h_51 => ?_) (fun h_51 => ?_)
    · replace h_51 := bI_1.mp h_51
      try simp only [hnp] at h_51
      refine z_iconst (v := 0) F dX7_deal_57 (by decide) ?_
      refine z_istore (lv' := [_, _, _, _, _, _, _, _, _, _]) F dX7_deal_58 (by decide) rfl rfl ?_
      have k0 := key a (rowS M o x ln (nI a) (nI np)) hk_37 hz rfl (by omega) (nlt h_25) h_51 np 0 none (by omega) rfl
      have e9 : dealT (M.1 (o + 1 + 15)) (M.2 (s + 1)) a 0 = M.1 (o + 1 + 15) := funext fun q => if_neg (by omega)
      rw [e9, za_self] at k0
      exact k0
    · replace h_51 := bI_0.mp h_51
      try simp only [hnp] at h_51
      refine z_bipush (v := (-2)) F dX7_deal_54 (by decide) ?_
      refine z_iret F X dX7_deal_56 ?_
      exact Or.inr ⟨nlt h_25, a, rfl, by omega, Or.inl ⟨h_51, rfl, rfl⟩⟩
  · try simp only [hnp] at h_25
    refine z_iload F dX7_deal_28 rfl ?_
    refine z_iret F X dX7_deal_30 ?_
    exact Or.inl ⟨h_25, rfl, rfl⟩
end
section
theorem c_X7_sheet {l : Launch} {w : zE} (J : zJ w) {M : zM} {o : Nat} {x ln n : Int32} (hk : zk o = 7) : zCi l w yX7_sheet cX7_sheet 4 (some .int) 3 [.ref (w.2.2 o), .int x, .int ln, .int n] M (fun r M2 => (((x < 0 ∨ 3 < x) ∨ (ln < 0 ∨ 3 < ln) ∨ 16 < n) ∧ r = -1 ∧ M2 = M) ∨ (¬ ((x < 0 ∨ 3 < x) ∨ (ln < 0 ∨ 3 < ln) ∨ 16 < n) ∧ ((n < 0 ∧ r = -14 ∧ M2 = M) ∨ (¬ n < 0 ∧ r = n ∧ M2 = zya (zs (zs (zs M (o + 129 + 1 + 2 * x.toNatClampNeg) 0 1) (o + 129 + 1 + 2 * x.toNatClampNeg) 1 ln) (o + 129 + 1 + 2 * x.toNatClampNeg) 2 n) (o + 129 + 1 + 2 * x.toNatClampNeg + 1) (fun _ => 0))))) := by
  refine zCi_of J zm_X7_sheet [some (.ref (w.2.2 o)), some (.int x), some (.int ln), some (.int n)] (Nat.le_of_ble_eq_true rfl) rfl (fun g hg F X => ?_)
  subst hg
  refine z_iload_n F dX7_sheet_0 rfl ?_
  refine z_iconst (v := 3) F dX7_sheet_1 (by decide) ?_
  refine z_callSi F (c_X7_isNot J) zm_X7_isNot zst_X7_isNot ml_X7_40 rfl rfl (Nat.le_of_ble_eq_true rfl) dX7_sheet_2 (by omega) (fun r_2 M_2 h_2 => ?_)
  obtain ⟨e_2, rfl⟩ := h_2
  replace e_2 := Eq.symm e_2
  subst e_2
  refine z_if_ne (tgt := 22) F dX7_sheet_5 (by decide) (fun h_5 => ?_) (fun h_5 => ?_)
  · replace h_5 := bI_1.mp h_5
    refine z_iconst (v := (-1)) F dX7_sheet_22 (by decide) ?_
    refine z_iret F X dX7_sheet_23 ?_
    refine Or.inl ⟨?_, rfl, rfl⟩
    first | exact Or.inl h_5 | exact Or.inr (Or.inl h_13) | exact Or.inr (Or.inr h_19)
  · replace h_5 := bI_0.mp h_5
    refine z_iload_n F dX7_sheet_8 rfl ?_
    refine z_iconst (v := 3) F dX7_sheet_9 (by decide) ?_
    refine z_callSi F (c_X7_isNot J) zm_X7_isNot zst_X7_isNot ml_X7_40 rfl rfl (Nat.le_of_ble_eq_true rfl) dX7_sheet_10 (by omega) (fun r_10 M_10 h_10 => ?_)
    obtain ⟨e_10, rfl⟩ := h_10
    replace e_10 := Eq.symm e_10
    subst e_10
    refine z_if_ne (tgt := 22) F dX7_sheet_13 (by decide) (fun h_13 => ?_) (fun h_13 => ?_)
    · replace h_13 := bI_1.mp h_13
      refine z_iconst (v := (-1)) F dX7_sheet_22 (by decide) ?_
      refine z_iret F X dX7_sheet_23 ?_
      refine Or.inl ⟨?_, rfl, rfl⟩
      first | exact Or.inl h_5 | exact Or.inr (Or.inl h_13) | exact Or.inr (Or.inr h_19)
    · replace h_13 := bI_0.mp h_13
      refine z_iload_n F dX7_sheet_16 rfl ?_
      refine z_bipush (v := 16) F dX7_sheet_17 (by decide) ?_
      refine z_ic_le (tgt := 24) F dX7_sheet_19 (by decide) (fun h_19 => ?_) (fun h_19 => ?_)
      · refine z_iload_n F dX7_sheet_24 rfl ?_
        refine z_if_ge (tgt := 31) F dX7_sheet_25 (by decide) (fun h_25 => ?_) (fun h_25 => ?_)
        · refine z_aload_n F dX7_sheet_31 rfl ?_
          refine zg_X7_sheets F (by with_reducible assumption) fl_X7_35 dX7_sheet_32 (fun hk_32 => ?_)
          refine z_iload_n F dX7_sheet_35 rfl ?_
          refine z_aald15 F (by with_reducible assumption) (in4 h_5) dX7_sheet_36 (fun hk_36 => ?_)
          refine z_iload_n F dX7_sheet_37 rfl ?_
          refine z_iload_n F dX7_sheet_38 rfl ?_
          refine z_callVv F (c_X2_renew J (by with_reducible assumption)) zm_X2_renew zv_X2_renew ml_X7_251 (by with_reducible assumption) (by decide) rfl rfl rfl (Nat.le_of_ble_eq_true rfl) dX7_sheet_39 (by omega) (fun M_39 h_39 => ?_)
          replace h_39 := Eq.symm h_39
          subst h_39
          refine z_iload_n F dX7_sheet_42 rfl ?_
          refine z_iret F X dX7_sheet_43 ?_
          exact Or.inr ⟨fun q => q.elim h_5 (fun q => q.elim h_13 (nlt h_19)), Or.inr ⟨nlt h_25, rfl, rfl⟩⟩
        · refine z_bipush (v := (-14)) F dX7_sheet_28 (by decide) ?_
          refine z_iret F X dX7_sheet_30 ?_
          exact Or.inr ⟨fun q => q.elim h_5 (fun q => q.elim h_13 (nlt h_19)), Or.inl ⟨h_25, rfl, rfl⟩⟩
      · refine z_iconst (v := (-1)) F dX7_sheet_22 (by decide) ?_
        refine z_iret F X dX7_sheet_23 ?_
        refine Or.inl ⟨?_, rfl, rfl⟩
        first | exact Or.inl h_5 | exact Or.inr (Or.inl h_13) | exact Or.inr (Or.inr h_19)
theorem c_X7_drop {l : Launch} {w : zE} (J : zJ w) {M : zM} {o : Nat} {x : Int32} (hk : zk o = 7) : zCi l w yX7_drop cX7_drop 2 (some .int) 1 [.ref (w.2.2 o), .int x] M (fun r M2 => ((x < 0 ∨ 3 < x) ∧ r = -1 ∧ M2 = M) ∨ (¬ (x < 0 ∨ 3 < x) ∧ ((M.1 (o + 129 + 1 + 2 * x.toNatClampNeg) 0 = 0 ∧ r = -11 ∧ M2 = M) ∨ (¬ M.1 (o + 129 + 1 + 2 * x.toNatClampNeg) 0 = 0 ∧ r = M.1 (o + 129 + 1 + 2 * x.toNatClampNeg) 2 ∧ M2 = zs M (o + 129 + 1 + 2 * x.toNatClampNeg) 0 0)))) := by
  refine zCi_of J zm_X7_drop [some (.ref (w.2.2 o)), some (.int x)] (Nat.le_of_ble_eq_true rfl) rfl (fun g hg F X => ?_)
  subst hg
  refine z_iload_n F dX7_drop_0 rfl ?_
  refine z_iconst (v := 3) F dX7_drop_1 (by decide) ?_
  refine z_callSi F (c_X7_isNot J) zm_X7_isNot zst_X7_isNot ml_X7_40 rfl rfl (Nat.le_of_ble_eq_true rfl) dX7_drop_2 (by omega) (fun r_2 M_2 h_2 => ?_)
  obtain ⟨e_2, rfl⟩ := h_2
  replace e_2 := Eq.symm e_2
  subst e_2
  refine z_if_eq (tgt := 10) F dX7_drop_5 (by decide) (fun h_5 => ?_) (fun h_5 => ?_)
  · replace h_5 := bI_0.mp h_5
    refine z_aload_n F dX7_drop_10 rfl ?_
    refine zg_X7_sheets F (by with_reducible assumption) fl_X7_35 dX7_drop_11 (fun hk_11 => ?_)
    refine z_iload_n F dX7_drop_14 rfl ?_
    refine z_aald15 F (by with_reducible assumption) (in4 h_5) dX7_drop_15 (fun hk_15 => ?_)
    refine zg_X2_isThere F (by with_reducible assumption) fl_X7_255 dX7_drop_16 ?_
    refine z_if_ne (tgt := 25) F dX7_drop_19 (by decide) (fun h_19 => ?_) (fun h_19 => ?_)
    · refine z_aload_n F dX7_drop_25 rfl ?_
      refine zg_X7_sheets F (by with_reducible assumption) fl_X7_35 dX7_drop_26 (fun hk_26 => ?_)
      refine z_iload_n F dX7_drop_29 rfl ?_
      refine z_aald15 F (by with_reducible assumption) (in4 h_5) dX7_drop_30 (fun hk_30 => ?_)
      refine z_iconst (v := 0) F dX7_drop_31 (by decide) ?_
      refine zp_X2_isThere F (by with_reducible assumption) fl_X7_255 (by decide) (by decide) dX7_drop_32 ?_
      refine z_aload_n F dX7_drop_35 rfl ?_
      refine zg_X7_sheets F (by with_reducible assumption) fl_X7_35 dX7_drop_36 (fun hk_36 => ?_)
      refine z_iload_n F dX7_drop_39 rfl ?_
      refine z_aald15 F (by with_reducible assumption) (in4 h_5) dX7_drop_40 (fun hk_40 => ?_)
      refine zg_X2_length F (by with_reducible assumption) fl_X7_258 dX7_drop_41 ?_
      refine z_iret F X dX7_drop_44 ?_
      refine Or.inr ⟨h_5, Or.inr ⟨h_19, ?_, rfl⟩⟩
      rw [zs_at, va_up_ne _ _ (by decide)]
    · refine z_bipush (v := (-11)) F dX7_drop_22 (by decide) ?_
      refine z_iret F X dX7_drop_24 ?_
      exact Or.inr ⟨h_5, Or.inl ⟨h_19, rfl, rfl⟩⟩
  · replace h_5 := bI_1.mp h_5
    refine z_iconst (v := (-1)) F dX7_drop_8 (by decide) ?_
    refine z_iret F X dX7_drop_9 ?_
    exact Or.inl ⟨h_5, rfl, rfl⟩
theorem c_X7_item {l : Launch} {w : zE} (J : zJ w) {M : zM} {o L : Nat} {x ln i : Int32} {v : Int64} (hk : zk o = 7) (hL : M.1 (o + 129 + 1 + 2 * x.toNatClampNeg) 2 = nI L) (h16 : L ≤ 16) : zCi l w yX7_item cX7_item 7 (some .int) 3 [.ref (w.2.2 o), .int x, .int ln, .int i, .long v] M (fun r M2 => rowS M o x ln i 1 < 0 ∧ M2 = M ∧ r = rowS M o x ln i 1 ∨ ¬ rowS M o x ln i 1 < 0 ∧ r = 1 ∧ ∃ a, i = nI a ∧ a < 16 ∧ M2 = zy M (o + 129 + 1 + 2 * x.toNatClampNeg + 1) a (putF ln v)) := by
  refine zCi_of J zm_X7_item [some (.ref (w.2.2 o)), some (.int x), some (.int ln), some (.int i), some (.long v), none, none] (Nat.le_of_ble_eq_true rfl) rfl (fun g hg F X => ?_)
  subst hg
  refine z_aload_n F dX7_item_0 rfl ?_
  refine z_iload_n F dX7_item_1 rfl ?_
  refine z_iload_n F dX7_item_2 rfl ?_
  refine z_iload_n F dX7_item_3 rfl ?_
  refine z_iconst (v := 1) F dX7_item_4 (by decide) ?_
  refine z_callVi F (c_X7_rowFault J hk) zm_X7_rowFault zv_X7_rowFault ml_X7_229 (by with_reducible assumption) (by decide) rfl rfl rfl (Nat.le_of_ble_eq_true rfl) dX7_item_5 (by omega) (fun r_5 M_5 h_5 => ?_)
  obtain ⟨e_5, rfl⟩ := h_5
  replace e_5 := Eq.symm e_5
  subst e_5
  refine z_istore (lv' := [_, _, _, _, _, _, _]) F dX7_item_8 (by decide) rfl rfl ?_
  refine z_iload F dX7_item_10 rfl ?_
  refine z_if_ge (tgt := 18) F dX7_item_12 (by decide) (fun h_12 => ?_) (fun h_12 => ?_)
  · obtain ⟨r1, r2, r3, r4, r5, r6, r7, r8, r9⟩ := rowS_ok (nlt h_12)
    obtain ⟨a, k, rfl, e6, e7⟩ := rng_n hL h16 r5 r6 r7 r8
    have e8 : 1 = k := (nI_eq (a := 1) (by omega) (by omega)).mp e6
    refine z_aload_n F dX7_item_18 rfl ?_
    refine zg_X7_sheets F (by with_reducible assumption) fl_X7_35 dX7_item_19 (fun hk_19 => ?_)
    refine z_iload_n F dX7_item_22 rfl ?_
    refine z_aald15 F (by with_reducible assumption) (in4 (rowS_ok (nlt h_12)).1) dX7_item_23 (fun hk_23 => ?_)
    refine z_iload_n F dX7_item_24 rfl ?_
    refine z_lload F dX7_item_25 rfl ?_
    refine z_callVv F (c_X2_put J (by with_reducible assumption) (by omega)) zm_X2_put zv_X2_put ml_X7_243 (by with_reducible assumption) (by decide) rfl rfl rfl (Nat.le_of_ble_eq_true rfl) dX7_item_27 (by omega) (fun M_27 h_27 => ?_)
    replace h_27 := Eq.symm h_27
    subst h_27
    refine z_iconst (v := 1) F dX7_item_30 (by decide) ?_
    refine z_iret F X dX7_item_31 ?_
    rw [r4]
    exact Or.inr ⟨nlt h_12, rfl, a, rfl, by omega, rfl⟩
  · refine z_iload F dX7_item_15 rfl ?_
    refine z_iret F X dX7_item_17 ?_
    exact Or.inl ⟨h_12, rfl, rfl⟩
section ZC
variable {w : zE} {g : zG} {own : String} {cc : ByteArray} {nL D pc : Nat} {lv : List (Option Value)} {M : zM}
theorem z_copy14 {i j idx : Nat} {sp dp n : Int32} (F : zF w g own cc nL D) (hi : zk i = 14) (hj : zk j = 14) (h1 : ¬ sp < 0) (h2 : ¬ dp < 0) (h3 : ¬ n < 0) (h4 : sp.toNatClampNeg + n.toNatClampNeg ≤ zn i) (h5 : dp.toNatClampNeg + n.toNatClampNeg ≤ zn j) (hl : Cond.methodLink own idx arraycopyName ∈ zTb) (hd : decode cc pc = .ok (.invokestatic idx, 3)) (hD : 1 ≤ D) (k : ZW w g nL (pc + 3) lv [] (zya M j (va_cpy (M.2 i) (M.2 j) sp.toNatClampNeg dp.toNatClampNeg n.toNatClampNeg))) : ZW w g nL pc lv [.int n, .int dp, .ref (w.2.2 j), .int sp, .ref (w.2.2 i)] M := fun H locs ls hl1 hP hS => by
  have f1 := F.2.2.2.2.2.2.2.2.2.1
  have f2 := F.2.2.2.2.2.2.2.2.2.2.1
  have l1 := zk_i hi (by decide)
  have l2 := zk_i hj (by decide)
  have hei : zc w M i = .inl (w.2.1 2, zn i, .inr (.inl (M.2 i))) := zc_eq hi
  have hej : zc w M j = .inl (w.2.1 2, zn j, .inr (.inl (M.2 j))) := zc_eq hj
  refine va_copyl F.1 F.2.1 (by rw [F.2.2.1]; exact hl1.1.symm) F.2.2.2.1 (F.2.2.2.2.1 _ hl) (F.2.2.2.2.1 _ ac_na) (F.2.2.2.2.1 _ ac_st) (F.2.2.2.2.1 _ ac_in) F.2.2.2.2.2.2.1 hP.P (zP.D F.2.2.2.2.2.2.2.1 F.2.2.2.2.2.2.2.2.1) hS i j 2 2 (by rw [zL0_at l1, hei]) (by rw [zL0_at l2, hej]) rfl rfl rfl h1 h2 h3 h4 h5 (fun _ _ => rfl) (by omega) (show 0 + (5 + 2 + 11) ≤ _ by omega) hd (fun H1 locs1 hP1 _ hS1 => k H1 locs1 ls hl1 (zP.put l2 hP1 ?_ zya_other) hS1)
  rw [zc_eq hj]
  show Sum.inl (w.2.1 2, zn j, Sum.inr (Sum.inl (va_up M.2 j _ j))) = _
  rw [va_up_self]
end ZC
theorem c_X7_copy {l : Launch} {w : zE} (J : zJ w) {M : zM} {o L1 L2 : Nat} {x i y j n : Int32} (hk : zk o = 7) (hL : M.1 (o + 129 + 1 + 2 * x.toNatClampNeg) 2 = nI L1) (h16 : L1 ≤ 16) (hL2 : M.1 (o + 129 + 1 + 2 * y.toNatClampNeg) 2 = nI L2) (h162 : L2 ≤ 16) : zCi l w yX7_copy cX7_copy 8 (some .int) 3 [.ref (w.2.2 o), .int x, .int i, .int y, .int j, .int n] M (fun r M2 => (((x < 0 ∨ 3 < x) ∨ (y < 0 ∨ 3 < y)) ∧ r = -1 ∧ M2 = M) ∨ (¬ ((x < 0 ∨ 3 < x) ∨ (y < 0 ∨ 3 < y)) ∧
     (((M.1 (o + 129 + 1 + 2 * x.toNatClampNeg) 0 = 0 ∨ M.1 (o + 129 + 1 + 2 * y.toNatClampNeg) 0 = 0) ∧ r = -11 ∧ M2 = M) ∨
      (¬ (M.1 (o + 129 + 1 + 2 * x.toNatClampNeg) 0 = 0 ∨ M.1 (o + 129 + 1 + 2 * y.toNatClampNeg) 0 = 0) ∧
       ((¬ M.1 (o + 129 + 1 + 2 * x.toNatClampNeg) 1 = M.1 (o + 129 + 1 + 2 * y.toNatClampNeg) 1 ∧ r = -12 ∧ M2 = M) ∨
        (M.1 (o + 129 + 1 + 2 * x.toNatClampNeg) 1 = M.1 (o + 129 + 1 + 2 * y.toNatClampNeg) 1 ∧
         ((¬ ((0 ≤ i ∧ 0 ≤ n ∧ n ≤ M.1 (o + 129 + 1 + 2 * x.toNatClampNeg) 2 ∧ i ≤ M.1 (o + 129 + 1 + 2 * x.toNatClampNeg) 2 - n) ∧ (0 ≤ j ∧ 0 ≤ n ∧ n ≤ M.1 (o + 129 + 1 + 2 * y.toNatClampNeg) 2 ∧ j ≤ M.1 (o + 129 + 1 + 2 * y.toNatClampNeg) 2 - n)) ∧ r = -13 ∧ M2 = M) ∨
          (((0 ≤ i ∧ 0 ≤ n ∧ n ≤ M.1 (o + 129 + 1 + 2 * x.toNatClampNeg) 2 ∧ i ≤ M.1 (o + 129 + 1 + 2 * x.toNatClampNeg) 2 - n) ∧ (0 ≤ j ∧ 0 ≤ n ∧ n ≤ M.1 (o + 129 + 1 + 2 * y.toNatClampNeg) 2 ∧ j ≤ M.1 (o + 129 + 1 + 2 * y.toNatClampNeg) 2 - n)) ∧ r = n ∧ ∃ a b k, i = nI a ∧ j = nI b ∧ n = nI k ∧ a + k ≤ 16 ∧ b + k ≤ 16 ∧ M2 = zya M (o + 129 + 1 + 2 * y.toNatClampNeg + 1) (va_cpy (M.2 (o + 129 + 1 + 2 * x.toNatClampNeg + 1)) (M.2 (o + 129 + 1 + 2 * y.toNatClampNeg + 1)) a b k))))))))) := by
  refine zCi_of J zm_X7_copy [some (.ref (w.2.2 o)), some (.int x), some (.int i), some (.int y), some (.int j), some (.int n), none, none] (Nat.le_of_ble_eq_true rfl) rfl (fun g hg F X => ?_)
  subst hg
  refine z_iload_n F dX7_copy_0 rfl ?_
  refine z_iconst (v := 3) F dX7_copy_1 (by decide) ?_
  refine z_callSi F (c_X7_isNot J) zm_X7_isNot zst_X7_isNot ml_X7_40 rfl rfl (Nat.le_of_ble_eq_true rfl) dX7_copy_2 (by omega) (fun r_2 M_2 h_2 => ?_)
  obtain ⟨e_2, rfl⟩ := h_2
  replace e_2 := Eq.symm e_2
  subst e_2
  refine z_if_ne (tgt := 16) F dX7_copy_5 (by decide) (fun h_5 => ?_) (fun h_5 => ?_)
  · replace h_5 := bI_1.mp h_5
    refine z_iconst (v := (-1)) F dX7_copy_16 (by decide) ?_
    refine z_iret F X dX7_copy_17 ?_
    refine Or.inl ⟨?_, rfl, rfl⟩
    first | exact Or.inl h_5 | exact Or.inr h_13
  · replace h_5 := bI_0.mp h_5
    refine z_iload_n F dX7_copy_8 rfl ?_
    refine z_iconst (v := 3) F dX7_copy_9 (by decide) ?_
    refine z_callSi F (c_X7_isNot J) zm_X7_isNot zst_X7_isNot ml_X7_40 rfl rfl (Nat.le_of_ble_eq_true rfl) dX7_copy_10 (by omega) (fun r_10 M_10 h_10 => ?_)
    obtain ⟨e_10, rfl⟩ := h_10
    replace e_10 := Eq.symm e_10
    subst e_10
    refine z_if_eq (tgt := 18) F dX7_copy_13 (by decide) (fun h_13 => ?_) (fun h_13 => ?_)
    · replace h_13 := bI_0.mp h_13
      refine z_aload_n F dX7_copy_18 rfl ?_
      refine zg_X7_sheets F (by with_reducible assumption) fl_X7_35 dX7_copy_19 (fun hk_19 => ?_)
      refine z_iload_n F dX7_copy_22 rfl ?_
      refine z_aald15 F (by with_reducible assumption) (in4 h_5) dX7_copy_23 (fun hk_23 => ?_)
      refine z_astore (lv' := [_, _, _, _, _, _, _, _]) F dX7_copy_24 (by decide) rfl rfl ?_
      refine z_aload_n F dX7_copy_26 rfl ?_
      refine zg_X7_sheets F (by with_reducible assumption) fl_X7_35 dX7_copy_27 (fun hk_27 => ?_)
      refine z_iload_n F dX7_copy_30 rfl ?_
      refine z_aald15 F (by with_reducible assumption) (in4 h_13) dX7_copy_31 (fun hk_31 => ?_)
      refine z_astore (lv' := [_, _, _, _, _, _, _, _]) F dX7_copy_32 (by decide) rfl rfl ?_
      refine z_aload F dX7_copy_34 rfl ?_
      refine zg_X2_isThere F (by with_reducible assumption) fl_X7_255 dX7_copy_36 ?_
      refine z_if_eq (tgt := 50) F dX7_copy_39 (by decide) (fun h_39 => ?_) (fun h_39 => ?_)
      · refine z_bipush (v := (-11)) F dX7_copy_50 (by decide) ?_
        refine z_iret F X dX7_copy_52 ?_
        refine Or.inr ⟨fun q => q.elim h_5 h_13, Or.inl ⟨?_, rfl, rfl⟩⟩
        first | exact Or.inl h_39 | exact Or.inr h_47
      · refine z_aload F dX7_copy_42 rfl ?_
        refine zg_X2_isThere F (by with_reducible assumption) fl_X7_255 dX7_copy_44 ?_
        refine z_if_ne (tgt := 53) F dX7_copy_47 (by decide) (fun h_47 => ?_) (fun h_47 => ?_)
        · refine z_aload F dX7_copy_53 rfl ?_
          refine zg_X2_lane F (by with_reducible assumption) fl_X7_259 dX7_copy_55 ?_
          refine z_aload F dX7_copy_58 rfl ?_
          refine zg_X2_lane F (by with_reducible assumption) fl_X7_259 dX7_copy_60 ?_
          refine z_ic_eq (tgt := 69) F dX7_copy_63 (by decide) (fun h_63 => ?_) (fun h_63 => ?_)
          · refine z_aload F dX7_copy_69 rfl ?_
            refine z_iload_n F dX7_copy_71 rfl ?_
            refine z_iload F dX7_copy_72 rfl ?_
            refine z_callVi F (c_X2_hasRange J (by with_reducible assumption)) zm_X2_hasRange zv_X2_hasRange ml_X7_262 (by with_reducible assumption) (by decide) rfl rfl rfl (Nat.le_of_ble_eq_true rfl) dX7_copy_74 (by omega) (fun r_74 M_74 h_74 => ?_)
            obtain ⟨e_74, rfl⟩ := h_74
            replace e_74 := Eq.symm e_74
            subst e_74
            refine z_if_eq (tgt := 92) F dX7_copy_77 (by decide) (fun h_77 => ?_) (fun h_77 => ?_)
            · replace h_77 := bI_0.mp h_77
              refine z_bipush (v := (-13)) F dX7_copy_92 (by decide) ?_
              refine z_iret F X dX7_copy_94 ?_
              refine Or.inr ⟨fun q => q.elim h_5 h_13, Or.inr ⟨fun q => q.elim h_39 h_47, Or.inr ⟨h_63, Or.inl ⟨fun q => ?_, rfl, rfl⟩⟩⟩⟩
              first | exact h_77 q.1 | exact h_89 q.2
            · replace h_77 := bI_1.mp h_77
              refine z_aload F dX7_copy_80 rfl ?_
              refine z_iload F dX7_copy_82 rfl ?_
              refine z_iload F dX7_copy_84 rfl ?_
              refine z_callVi F (c_X2_hasRange J (by with_reducible assumption)) zm_X2_hasRange zv_X2_hasRange ml_X7_262 (by with_reducible assumption) (by decide) rfl rfl rfl (Nat.le_of_ble_eq_true rfl) dX7_copy_86 (by omega) (fun r_86 M_86 h_86 => ?_)
              obtain ⟨e_86, rfl⟩ := h_86
              replace e_86 := Eq.symm e_86
              subst e_86
              refine z_if_ne (tgt := 95) F dX7_copy_89 (by decide) (fun h_89 => ?_) (fun h_89 => ?_)
              · replace h_89 := bI_1.mp h_89
                refine z_aload F dX7_copy_95 rfl ?_
                refine zg_X2_items F (by with_reducible assumption) fl_X7_232 dX7_copy_97 (fun hk_97 => ?_)
                refine z_iload_n F dX7_copy_100 rfl ?_
                refine z_aload F dX7_copy_101 rfl ?_
                refine zg_X2_items F (by with_reducible assumption) fl_X7_232 dX7_copy_103 (fun hk_103 => ?_)
                refine z_iload F dX7_copy_106 rfl ?_
                refine z_iload F dX7_copy_108 rfl ?_
                obtain ⟨a, k, rfl, rfl, e7⟩ := rng_n hL h16 h_77.1 h_77.2.1 h_77.2.2.1 h_77.2.2.2
                obtain ⟨b, k2, rfl, e6, e72⟩ := rng_n hL2 h162 h_89.1 h_89.2.1 h_89.2.2.1 h_89.2.2.2
                have hkk : k < 2 ^ 31 := by omega
                have e8 : k = k2 := (nI_eq hkk (by omega)).mp e6
                have z1 := zn_sheet _ (zk_i hk_23 (by decide)) hk_23
                have z2 := zn_sheet _ (zk_i hk_31 (by decide)) hk_31
                have c1 : (nI a).toNatClampNeg = a := nI_clamp (by omega)
                have c2 : (nI b).toNatClampNeg = b := nI_clamp (by omega)
                have c3 : (nI k).toNatClampNeg = k := nI_clamp (by omega)
                refine z_copy14 F hk_97 hk_103 (nI_pos (by omega)) (nI_pos (by omega)) (nI_pos (by omega)) (by rw [c1, c3, z1]; omega) (by rw [c2, c3, z2]; omega) ac_X7_265 dX7_copy_110 (by omega) ?_
                rw [c1, c2, c3]
                refine z_iload F dX7_copy_113 rfl ?_
                refine z_iret F X dX7_copy_115 ?_
                exact Or.inr ⟨fun q => q.elim h_5 h_13, Or.inr ⟨fun q => q.elim h_39 h_47, Or.inr ⟨h_63, Or.inr ⟨⟨h_77, h_89⟩, rfl, a, b, k, rfl, rfl, rfl, by omega, by omega, rfl⟩⟩⟩⟩
              · replace h_89 := bI_0.mp h_89
                refine z_bipush (v := (-13)) F dX7_copy_92 (by decide) ?_
                refine z_iret F X dX7_copy_94 ?_
                refine Or.inr ⟨fun q => q.elim h_5 h_13, Or.inr ⟨fun q => q.elim h_39 h_47, Or.inr ⟨h_63, Or.inl ⟨fun q => ?_, rfl, rfl⟩⟩⟩⟩
                first | exact h_77 q.1 | exact h_89 q.2
          · refine z_bipush (v := (-12)) F dX7_copy_66 (by decide) ?_
            refine z_iret F X dX7_copy_68 ?_
            exact Or.inr ⟨fun q => q.elim h_5 h_13, Or.inr ⟨fun q => q.elim h_39 h_47, Or.inl ⟨h_63, rfl, rfl⟩⟩⟩
        · refine z_bipush (v := (-11)) F dX7_copy_50 (by decide) ?_
          refine z_iret F X dX7_copy_52 ?_
          refine Or.inr ⟨fun q => q.elim h_5 h_13, Or.inl ⟨?_, rfl, rfl⟩⟩
          first | exact Or.inl h_39 | exact Or.inr h_47
    · replace h_13 := bI_1.mp h_13
      refine z_iconst (v := (-1)) F dX7_copy_16 (by decide) ?_
      refine z_iret F X dX7_copy_17 ?_
      refine Or.inl ⟨?_, rfl, rfl⟩
      first | exact Or.inl h_5 | exact Or.inr h_13
end
