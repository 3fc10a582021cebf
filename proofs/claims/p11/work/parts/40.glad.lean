theorem c_X7_isNot {l : Launch} {w : zE} (J : zJ w) {M : zM} {v most : Int32} : zCi l w yX7_isNot cX7_isNot 2 (some .boolean) 0 [.int v, .int most] M (fun r M2 => M2 = M ∧ r = bI (v < 0 ∨ most < v)) := by
  refine zCi_of J zm_X7_isNot [some (.int v), some (.int most)] (Nat.le_of_ble_eq_true rfl) rfl (fun g hg F X => ?_)
  subst hg
  refine z_iload_n F dX7_isNot_0 rfl ?_
  refine z_if_lt (tgt := 9) F dX7_isNot_1 (by decide) (fun h_1 => ?_) (fun h_1 => ?_)
  · refine z_iconst (v := 1) F dX7_isNot_9 (by decide) ?_
    refine z_goto (tgt := 14) F dX7_isNot_10 (by decide) ?_
    refine z_zret F X dX7_isNot_14 (by decide) ?_
    refine ⟨rfl, ?_⟩
    first | exact bI_t (Or.inl h_1) | exact bI_t (Or.inr h_6) | exact bI_f (fun q => q.elim (nlt h_1) (nlt h_6))
  · refine z_iload_n F dX7_isNot_4 rfl ?_
    refine z_iload_n F dX7_isNot_5 rfl ?_
    refine z_ic_le (tgt := 13) F dX7_isNot_6 (by decide) (fun h_6 => ?_) (fun h_6 => ?_)
    · refine z_iconst (v := 0) F dX7_isNot_13 (by decide) ?_
      refine z_zret F X dX7_isNot_14 (by decide) ?_
      refine ⟨rfl, ?_⟩
      first | exact bI_t (Or.inl h_1) | exact bI_t (Or.inr h_6) | exact bI_f (fun q => q.elim (nlt h_1) (nlt h_6))
    · refine z_iconst (v := 1) F dX7_isNot_9 (by decide) ?_
      refine z_goto (tgt := 14) F dX7_isNot_10 (by decide) ?_
      refine z_zret F X dX7_isNot_14 (by decide) ?_
      refine ⟨rfl, ?_⟩
      first | exact bI_t (Or.inl h_1) | exact bI_t (Or.inr h_6) | exact bI_f (fun q => q.elim (nlt h_1) (nlt h_6))
theorem c_X7_isNoThingOrNone {l : Launch} {w : zE} (J : zJ w) {M : zM} {o : Nat} {x : Int32} (hk : zk o = 7) : zCi l w yX7_isNoThingOrNone cX7_isNoThingOrNone 2 (some .boolean) 1 [.ref (w.2.2 o), .int x] M (fun r M2 => M2 = M ∧ r = bI (¬ x = -4 ∧ ¬ (0 ≤ x ∧ x < M.1 (o + 1 + 1) 0))) := by
  refine zCi_of J zm_X7_isNoThingOrNone [some (.ref (w.2.2 o)), some (.int x)] (Nat.le_of_ble_eq_true rfl) rfl (fun g hg F X => ?_)
  subst hg
  refine z_iload_n F dX7_isNoThingOrNone_0 rfl ?_
  refine z_bipush (v := (-4)) F dX7_isNoThingOrNone_1 (by decide) ?_
  refine z_ic_eq (tgt := 24) F dX7_isNoThingOrNone_3 (by decide) (fun h_3 => ?_) (fun h_3 => ?_)
  · refine z_iconst (v := 0) F dX7_isNoThingOrNone_24 (by decide) ?_
    refine z_zret F X dX7_isNoThingOrNone_25 (by decide) ?_
    refine ⟨rfl, ?_⟩
    first | exact bI_f (fun q => q.1 h_3) | exact bI_t ⟨h_3, h_17⟩ | exact bI_f (fun q => q.2 h_17)
  · refine z_aload_n F dX7_isNoThingOrNone_6 rfl ?_
    refine zg_X7_now F (by with_reducible assumption) fl_X7_10 dX7_isNoThingOrNone_7 (fun hk_7 => ?_)
    refine zg_X6_road F (by with_reducible assumption) fl_X7_44 dX7_isNoThingOrNone_10 (fun hk_10 => ?_)
    refine z_iload_n F dX7_isNoThingOrNone_13 rfl ?_
    refine z_callVi F (c_X1_isThing J (by with_reducible assumption)) zm_X1_isThing zv_X1_isThing ml_X7_61 (by with_reducible assumption) (by decide) rfl rfl rfl (Nat.le_of_ble_eq_true rfl) dX7_isNoThingOrNone_14 (by omega) (fun r_14 M_14 h_14 => ?_)
    obtain ⟨e_14, rfl⟩ := h_14
    replace e_14 := Eq.symm e_14
    subst e_14
    refine z_if_ne (tgt := 24) F dX7_isNoThingOrNone_17 (by decide) (fun h_17 => ?_) (fun h_17 => ?_)
    · replace h_17 := bI_1.mp h_17
      refine z_iconst (v := 0) F dX7_isNoThingOrNone_24 (by decide) ?_
      refine z_zret F X dX7_isNoThingOrNone_25 (by decide) ?_
      refine ⟨rfl, ?_⟩
      first | exact bI_f (fun q => q.1 h_3) | exact bI_t ⟨h_3, h_17⟩ | exact bI_f (fun q => q.2 h_17)
    · replace h_17 := bI_0.mp h_17
      refine z_iconst (v := 1) F dX7_isNoThingOrNone_20 (by decide) ?_
      refine z_goto (tgt := 25) F dX7_isNoThingOrNone_21 (by decide) ?_
      refine z_zret F X dX7_isNoThingOrNone_25 (by decide) ?_
      refine ⟨rfl, ?_⟩
      first | exact bI_f (fun q => q.1 h_3) | exact bI_t ⟨h_3, h_17⟩ | exact bI_f (fun q => q.2 h_17)
theorem c_X7_isHad {l : Launch} {w : zE} (J : zJ w) {M : zM} {o np : Nat} {x : Int32} (hk : zk o = 7) (hnp : M.1 (o + 1 + 1) 1 = nI np) (hnp9 : np ≤ 9) : zCi l w yX7_isHad cX7_isHad 2 (some .boolean) 1 [.ref (w.2.2 o), .int x] M (fun r M2 => M2 = M ∧ r = bI (¬ whoF (M.1 (o + 1 + 15)) np x = -4)) := by
  refine zCi_of J zm_X7_isHad [some (.ref (w.2.2 o)), some (.int x)] (Nat.le_of_ble_eq_true rfl) rfl (fun g hg F X => ?_)
  subst hg
  refine z_aload_n F dX7_isHad_0 rfl ?_
  refine zg_X7_now F (by with_reducible assumption) fl_X7_10 dX7_isHad_1 (fun hk_1 => ?_)
  refine zg_X6_road F (by with_reducible assumption) fl_X7_44 dX7_isHad_4 (fun hk_4 => ?_)
  refine z_iload_n F dX7_isHad_7 rfl ?_
  refine z_aload_n F dX7_isHad_8 rfl ?_
  refine zg_X7_now F (by with_reducible assumption) fl_X7_10 dX7_isHad_9 (fun hk_9 => ?_)
  refine zg_X6_trip F (by with_reducible assumption) fl_X7_83 dX7_isHad_12 (fun hk_12 => ?_)
  refine z_callVi F (c_X1_whoHas J (by with_reducible assumption) (by with_reducible assumption) hnp hnp9) zm_X1_whoHas zv_X1_whoHas ml_X7_87 (by with_reducible assumption) (by decide) rfl rfl rfl (Nat.le_of_ble_eq_true rfl) dX7_isHad_15 (by omega) (fun r_15 M_15 h_15 => ?_)
  obtain ⟨e_15, rfl⟩ := h_15
  replace e_15 := Eq.symm e_15
  subst e_15
  refine z_bipush (v := (-4)) F dX7_isHad_18 (by decide) ?_
  refine z_ic_eq (tgt := 27) F dX7_isHad_20 (by decide) (fun h_20 => ?_) (fun h_20 => ?_)
  · refine z_iconst (v := 0) F dX7_isHad_27 (by decide) ?_
    refine z_zret F X dX7_isHad_28 (by decide) ?_
    refine ⟨rfl, ?_⟩
    first | exact bI_f (fun q => q h_20) | exact bI_t h_20
  · refine z_iconst (v := 1) F dX7_isHad_23 (by decide) ?_
    refine z_goto (tgt := 28) F dX7_isHad_24 (by decide) ?_
    refine z_zret F X dX7_isHad_28 (by decide) ?_
    refine ⟨rfl, ?_⟩
    first | exact bI_f (fun q => q h_20) | exact bI_t h_20
/-- a thing's answer and what it does -/
abbrev thgBad (a b c d : Int32) : Prop := (a < 0 ∨ 3 < a) ∨ (b < 0 ∨ 99 < b) ∨ (c < 0 ∨ 30 < c) ∨ (d < 0 ∨ 30 < d)
theorem c_X7_thing {l : Launch} {w : zE} (J : zJ w) {M : zM} {o nt : Nat} {a b c d : Int32} (hk : zk o = 7) (hnt : M.1 (o + 1 + 1) 0 = nI nt) (h10 : nt ≤ 10) : zCi l w yX7_thing cX7_thing 5 (some .int) 2 [.ref (w.2.2 o), .int a, .int b, .int c, .int d] M (fun r M2 => (thgBad a b c d ∧ r = -1 ∧ M2 = M) ∨ (¬ thgBad a b c d ∧ nt = 10 ∧ r = -3 ∧ M2 = M) ∨ (¬ thgBad a b c d ∧ nt < 10 ∧ r = nI nt ∧ M2 = zs (za (zs M (o + 1) 3 0) (o + 1 + 1 + 1) (setF (M.1 (o + 1 + 1 + 1)) nt a b c d)) (o + 1 + 1) 0 (nI (nt + 1)))) := by
  have e1 : (zs M (o + 1) 3 0).1 (o + 1 + 1) = M.1 (o + 1 + 1) := zs_off _ (by omega)
  have e2 : (zs M (o + 1) 3 0).1 (o + 1 + 1 + 1) = M.1 (o + 1 + 1 + 1) := zs_off _ (by omega)
  refine zCi_of J zm_X7_thing [some (.ref (w.2.2 o)), some (.int a), some (.int b), some (.int c), some (.int d)] (Nat.le_of_ble_eq_true rfl) rfl (fun g hg F X => ?_)
  subst hg
  refine z_iload_n F dX7_thing_0 rfl ?_
  refine z_iconst (v := 3) F dX7_thing_1 (by decide) ?_
  refine z_callSi F (c_X7_isNot J) zm_X7_isNot zst_X7_isNot ml_X7_40 rfl rfl (Nat.le_of_ble_eq_true rfl) dX7_thing_2 (by omega) (fun r_2 M_2 h_2 => ?_)
  obtain ⟨e_2, rfl⟩ := h_2
  replace e_2 := Eq.symm e_2
  subst e_2
  refine z_if_ne (tgt := 36) F dX7_thing_5 (by decide) (fun h_5 => ?_) (fun h_5 => ?_)
  · replace h_5 := bI_1.mp h_5
    refine z_iconst (v := (-1)) F dX7_thing_36 (by decide) ?_
    refine z_iret F X dX7_thing_37 ?_
    refine Or.inl ⟨?_, rfl, rfl⟩
    first | exact Or.inl h_5 | exact Or.inr (Or.inl h_14) | exact Or.inr (Or.inr (Or.inl h_23)) | exact Or.inr (Or.inr (Or.inr h_33))
  · replace h_5 := bI_0.mp h_5
    refine z_iload_n F dX7_thing_8 rfl ?_
    refine z_bipush (v := 99) F dX7_thing_9 (by decide) ?_
    refine z_callSi F (c_X7_isNot J) zm_X7_isNot zst_X7_isNot ml_X7_40 rfl rfl (Nat.le_of_ble_eq_true rfl) dX7_thing_11 (by omega) (fun r_11 M_11 h_11 => ?_)
    obtain ⟨e_11, rfl⟩ := h_11
    replace e_11 := Eq.symm e_11
    subst e_11
    refine z_if_ne (tgt := 36) F dX7_thing_14 (by decide) (fun h_14 => ?_) (fun h_14 => ?_)
    · replace h_14 := bI_1.mp h_14
      refine z_iconst (v := (-1)) F dX7_thing_36 (by decide) ?_
      refine z_iret F X dX7_thing_37 ?_
      refine Or.inl ⟨?_, rfl, rfl⟩
      first | exact Or.inl h_5 | exact Or.inr (Or.inl h_14) | exact Or.inr (Or.inr (Or.inl h_23)) | exact Or.inr (Or.inr (Or.inr h_33))
    · replace h_14 := bI_0.mp h_14
      refine z_iload_n F dX7_thing_17 rfl ?_
      refine z_bipush (v := 30) F dX7_thing_18 (by decide) ?_
      refine z_callSi F (c_X7_isNot J) zm_X7_isNot zst_X7_isNot ml_X7_40 rfl rfl (Nat.le_of_ble_eq_true rfl) dX7_thing_20 (by omega) (fun r_20 M_20 h_20 => ?_)
      obtain ⟨e_20, rfl⟩ := h_20
      replace e_20 := Eq.symm e_20
      subst e_20
      refine z_if_ne (tgt := 36) F dX7_thing_23 (by decide) (fun h_23 => ?_) (fun h_23 => ?_)
      · replace h_23 := bI_1.mp h_23
        refine z_iconst (v := (-1)) F dX7_thing_36 (by decide) ?_
        refine z_iret F X dX7_thing_37 ?_
        refine Or.inl ⟨?_, rfl, rfl⟩
        first | exact Or.inl h_5 | exact Or.inr (Or.inl h_14) | exact Or.inr (Or.inr (Or.inl h_23)) | exact Or.inr (Or.inr (Or.inr h_33))
      · replace h_23 := bI_0.mp h_23
        refine z_iload F dX7_thing_26 rfl ?_
        refine z_bipush (v := 30) F dX7_thing_28 (by decide) ?_
        refine z_callSi F (c_X7_isNot J) zm_X7_isNot zst_X7_isNot ml_X7_40 rfl rfl (Nat.le_of_ble_eq_true rfl) dX7_thing_30 (by omega) (fun r_30 M_30 h_30 => ?_)
        obtain ⟨e_30, rfl⟩ := h_30
        replace e_30 := Eq.symm e_30
        subst e_30
        refine z_if_eq (tgt := 38) F dX7_thing_33 (by decide) (fun h_33 => ?_) (fun h_33 => ?_)
        · replace h_33 := bI_0.mp h_33
          refine z_aload_n F dX7_thing_38 rfl ?_
          refine zg_X7_now F (by with_reducible assumption) fl_X7_10 dX7_thing_39 (fun hk_39 => ?_)
          refine zg_X6_road F (by with_reducible assumption) fl_X7_44 dX7_thing_42 (fun hk_42 => ?_)
          refine zg_X1_thingCount F (by with_reducible assumption) fl_X7_48 dX7_thing_45 ?_
          refine z_bipush (v := 10) F dX7_thing_48 (by decide) ?_
          refine z_ic_lt (tgt := 56) F dX7_thing_50 (by decide) (fun h_50 => ?_) (fun h_50 => ?_)
          · refine z_aload_n F dX7_thing_56 rfl ?_
            refine zg_X7_now F (by with_reducible assumption) fl_X7_10 dX7_thing_57 (fun hk_57 => ?_)
            refine z_iconst (v := 0) F dX7_thing_60 (by decide) ?_
            refine zp_X6_known F (by with_reducible assumption) fl_X7_54 dX7_thing_61 ?_
            refine z_aload_n F dX7_thing_64 rfl ?_
            refine zg_X7_now F (by with_reducible assumption) fl_X7_10 dX7_thing_65 (fun hk_65 => ?_)
            refine zg_X6_road F (by with_reducible assumption) fl_X7_44 dX7_thing_68 (fun hk_68 => ?_)
            refine z_iload_n F dX7_thing_71 rfl ?_
            refine z_iload_n F dX7_thing_72 rfl ?_
            refine z_iload_n F dX7_thing_73 rfl ?_
            refine z_iload F dX7_thing_74 rfl ?_
            refine z_callVi F (c_X1_addThing J (by with_reducible assumption) (n := nt) (by rw [e1]; exact hnt) (by rw [hnt] at h_50; exact (nI_ltI (b := 10) (by omega) (by decide)).mp h_50)) zm_X1_addThing zv_X1_addThing ml_X7_57 (by with_reducible assumption) (by decide) rfl rfl rfl (Nat.le_of_ble_eq_true rfl) dX7_thing_76 (by omega) (fun r_76 M_76 h_76 => ?_)
            obtain ⟨e_76, rfl⟩ := h_76
            replace e_76 := Eq.symm e_76
            subst e_76
            refine z_iret F X dX7_thing_79 ?_
            refine Or.inr (Or.inr ⟨fun q => q.elim h_5 (fun q => q.elim h_14 (fun q => q.elim h_23 h_33)), ?_, rfl, by rw [e2]⟩)
            rw [hnt] at h_50
            exact (nI_ltI (b := 10) (by omega) (by decide)).mp h_50
          · refine z_bipush (v := (-3)) F dX7_thing_53 (by decide) ?_
            refine z_iret F X dX7_thing_55 ?_
            refine Or.inr (Or.inl ⟨fun q => q.elim h_5 (fun q => q.elim h_14 (fun q => q.elim h_23 h_33)), ?_, rfl, rfl⟩)
            rw [hnt] at h_50
            have := (nI_leI (a := 10) (by decide) (by omega)).mp h_50
            omega
        · replace h_33 := bI_1.mp h_33
          refine z_iconst (v := (-1)) F dX7_thing_36 (by decide) ?_
          refine z_iret F X dX7_thing_37 ?_
          refine Or.inl ⟨?_, rfl, rfl⟩
          first | exact Or.inl h_5 | exact Or.inr (Or.inl h_14) | exact Or.inr (Or.inr (Or.inl h_23)) | exact Or.inr (Or.inr (Or.inr h_33))
def ofS (rb th T : zF1) (np : Nat) (x k : Int32) : Int32 := if 0 ≤ x ∧ x < rb 0 then (if k = 0 then th (4 * x.toNatClampNeg) else if k = 1 then th (4 * x.toNatClampNeg + 1) else if k = 2 then th (4 * x.toNatClampNeg + 2) else if k = 3 then th (4 * x.toNatClampNeg + 3) else if k = 4 then whoF T np x else -1) else -1
theorem c_X7_of {l : Launch} {w : zE} (J : zJ w) {M : zM} {o np : Nat} {x k : Int32} (hk : zk o = 7) (hnt : M.1 (o + 1 + 1) 0 ≤ 10) (hnp : M.1 (o + 1 + 1) 1 = nI np) (hnp9 : np ≤ 8) : zCi l w yX7_of cX7_of 4 (some .int) 1 [.ref (w.2.2 o), .int x, .int k] M (fun r M2 => M2 = M ∧ r = ofS (M.1 (o + 1 + 1)) (M.1 (o + 1 + 1 + 1)) (M.1 (o + 1 + 15)) np x k) := by
  refine zCi_of J zm_X7_of [some (.ref (w.2.2 o)), some (.int x), some (.int k), none] (Nat.le_of_ble_eq_true rfl) rfl (fun g hg F X => ?_)
  subst hg
  refine z_aload_n F dX7_of_0 rfl ?_
  refine zg_X7_now F (by with_reducible assumption) fl_X7_10 dX7_of_1 (fun hk_1 => ?_)
  refine zg_X6_road F (by with_reducible assumption) fl_X7_44 dX7_of_4 (fun hk_4 => ?_)
  refine z_iload_n F dX7_of_7 rfl ?_
  refine z_callVi F (c_X1_isThing J (by with_reducible assumption)) zm_X1_isThing zv_X1_isThing ml_X7_61 (by with_reducible assumption) (by decide) rfl rfl rfl (Nat.le_of_ble_eq_true rfl) dX7_of_8 (by omega) (fun r_8 M_8 h_8 => ?_)
  obtain ⟨e_8, rfl⟩ := h_8
  replace e_8 := Eq.symm e_8
  subst e_8
  refine z_if_ne (tgt := 16) F dX7_of_11 (by decide) (fun h_11 => ?_) (fun h_11 => ?_)
  · replace h_11 := bI_1.mp h_11
    refine z_aload_n F dX7_of_16 rfl ?_
    refine zg_X7_now F (by with_reducible assumption) fl_X7_10 dX7_of_17 (fun hk_17 => ?_)
    refine zg_X6_road F (by with_reducible assumption) fl_X7_44 dX7_of_20 (fun hk_20 => ?_)
    refine zg_X1_things F (by with_reducible assumption) fl_X7_65 dX7_of_23 (fun hk_23 => ?_)
    refine z_iload_n F dX7_of_26 rfl ?_
    refine z_aald16 F (by with_reducible assumption) (vpl 10 (by decide) ⟨h_11.1, Int32.lt_of_lt_of_le h_11.2 hnt⟩) dX7_of_27 (fun hk_27 hb_27 ho_27 => ?_)
    refine z_astore_n (lv' := [_, _, _, _]) F dX7_of_28 (by decide) rfl rfl ?_
    refine z_iload_n F dX7_of_29 rfl ?_
    refine z_tab5 F dX7_of_30 (tgt0 := 64) (tgt1 := 69) (tgt2 := 74) (tgt3 := 79) (tgt4 := 84) (dt := 103) (by decide) (by decide) (by decide) (by decide) (by decide) (by decide) (fun h_30 => ?_) (fun h_30 => ?_) (fun h_30 => ?_) (fun h_30 => ?_) (fun h_30 => ?_) (fun h_30_0 h_30_1 h_30_2 h_30_3 h_30_4 => ?_)
    · refine z_aload_n F dX7_of_64 rfl ?_
      refine zg_X4_kind F (by with_reducible assumption) fl_X7_69 dX7_of_65 ?_
      refine z_iret F X dX7_of_68 ?_
      refine ⟨rfl, ?_⟩
      rw [ofS, if_pos h_11]
      first
        | (rw [hb_27, ho_27]; subst h_30; rfl)
        | (subst h_30; rfl)
        | (rw [if_neg h_30_0, if_neg h_30_1, if_neg h_30_2, if_neg h_30_3, if_neg h_30_4])
    · refine z_aload_n F dX7_of_69 rfl ?_
      refine zg_X4_worth F (by with_reducible assumption) fl_X7_74 dX7_of_70 ?_
      refine z_iret F X dX7_of_73 ?_
      refine ⟨rfl, ?_⟩
      rw [ofS, if_pos h_11]
      first
        | (rw [hb_27, ho_27]; subst h_30; rfl)
        | (subst h_30; rfl)
        | (rw [if_neg h_30_0, if_neg h_30_1, if_neg h_30_2, if_neg h_30_3, if_neg h_30_4])
    · refine z_aload_n F dX7_of_74 rfl ?_
      refine zg_X4_load F (by with_reducible assumption) fl_X7_77 dX7_of_75 ?_
      refine z_iret F X dX7_of_78 ?_
      refine ⟨rfl, ?_⟩
      rw [ofS, if_pos h_11]
      first
        | (rw [hb_27, ho_27]; subst h_30; rfl)
        | (subst h_30; rfl)
        | (rw [if_neg h_30_0, if_neg h_30_1, if_neg h_30_2, if_neg h_30_3, if_neg h_30_4])
    · refine z_aload_n F dX7_of_79 rfl ?_
      refine zg_X4_care F (by with_reducible assumption) fl_X7_80 dX7_of_80 ?_
      refine z_iret F X dX7_of_83 ?_
      refine ⟨rfl, ?_⟩
      rw [ofS, if_pos h_11]
      first
        | (rw [hb_27, ho_27]; subst h_30; rfl)
        | (subst h_30; rfl)
        | (rw [if_neg h_30_0, if_neg h_30_1, if_neg h_30_2, if_neg h_30_3, if_neg h_30_4])
    · refine z_aload_n F dX7_of_84 rfl ?_
      refine zg_X7_now F (by with_reducible assumption) fl_X7_10 dX7_of_85 (fun hk_85 => ?_)
      refine zg_X6_road F (by with_reducible assumption) fl_X7_44 dX7_of_88 (fun hk_88 => ?_)
      refine z_iload_n F dX7_of_91 rfl ?_
      refine z_aload_n F dX7_of_92 rfl ?_
      refine zg_X7_now F (by with_reducible assumption) fl_X7_10 dX7_of_93 (fun hk_93 => ?_)
      refine zg_X6_trip F (by with_reducible assumption) fl_X7_83 dX7_of_96 (fun hk_96 => ?_)
      refine z_callVi F (c_X1_whoHas J (by with_reducible assumption) (by with_reducible assumption) (np := np) hnp (by omega)) zm_X1_whoHas zv_X1_whoHas ml_X7_87 (by with_reducible assumption) (by decide) rfl rfl rfl (Nat.le_of_ble_eq_true rfl) dX7_of_99 (by omega) (fun r_99 M_99 h_99 => ?_)
      obtain ⟨e_99, rfl⟩ := h_99
      replace e_99 := Eq.symm e_99
      subst e_99
      refine z_iret F X dX7_of_102 ?_
      refine ⟨rfl, ?_⟩
      rw [ofS, if_pos h_11]
      first
        | (rw [hb_27, ho_27]; subst h_30; rfl)
        | (subst h_30; rfl)
        | (rw [if_neg h_30_0, if_neg h_30_1, if_neg h_30_2, if_neg h_30_3, if_neg h_30_4])
    · refine z_iconst (v := (-1)) F dX7_of_103 (by decide) ?_
      refine z_iret F X dX7_of_104 ?_
      refine ⟨rfl, ?_⟩
      rw [ofS, if_pos h_11]
      first
        | (rw [hb_27, ho_27]; subst h_30; rfl)
        | (subst h_30; rfl)
        | (rw [if_neg h_30_0, if_neg h_30_1, if_neg h_30_2, if_neg h_30_3, if_neg h_30_4])
  · replace h_11 := bI_0.mp h_11
    refine z_iconst (v := (-1)) F dX7_of_14 (by decide) ?_
    refine z_iret F X dX7_of_15 ?_
    exact ⟨rfl, by rw [ofS, if_neg h_11]⟩
def fltS (rb th : zF1) (x n k : Int32) : Int32 := if (0 ≤ x ∧ x < rb 0) ∧ ¬ (n < 0 ∨ 99 < n) ∧ ¬ (k < 0 ∨ 1 < k) then feltF th x.toNatClampNeg k n else -1
theorem c_X7_felt {l : Launch} {w : zE} (J : zJ w) {M : zM} {o : Nat} {x n k : Int32} (hk : zk o = 7) (hnt : M.1 (o + 1 + 1) 0 ≤ 10) : zCi l w yX7_felt cX7_felt 4 (some .int) 1 [.ref (w.2.2 o), .int x, .int n, .int k] M (fun r M2 => M2 = M ∧ r = fltS (M.1 (o + 1 + 1)) (M.1 (o + 1 + 1 + 1)) x n k) := by
  refine zCi_of J zm_X7_felt [some (.ref (w.2.2 o)), some (.int x), some (.int n), some (.int k)] (Nat.le_of_ble_eq_true rfl) rfl (fun g hg F X => ?_)
  subst hg
  refine z_aload_n F dX7_felt_0 rfl ?_
  refine zg_X7_now F (by with_reducible assumption) fl_X7_10 dX7_felt_1 (fun hk_1 => ?_)
  refine zg_X6_road F (by with_reducible assumption) fl_X7_44 dX7_felt_4 (fun hk_4 => ?_)
  refine z_iload_n F dX7_felt_7 rfl ?_
  refine z_callVi F (c_X1_isThing J (by with_reducible assumption)) zm_X1_isThing zv_X1_isThing ml_X7_61 (by with_reducible assumption) (by decide) rfl rfl rfl (Nat.le_of_ble_eq_true rfl) dX7_felt_8 (by omega) (fun r_8 M_8 h_8 => ?_)
  obtain ⟨e_8, rfl⟩ := h_8
  replace e_8 := Eq.symm e_8
  subst e_8
  refine z_if_eq (tgt := 31) F dX7_felt_11 (by decide) (fun h_11 => ?_) (fun h_11 => ?_)
  · replace h_11 := bI_0.mp h_11
    refine z_iconst (v := (-1)) F dX7_felt_31 (by decide) ?_
    refine z_iret F X dX7_felt_32 ?_
    refine ⟨rfl, (if_neg ?_).symm⟩
    first | exact fun q => h_11 q.1 | exact fun q => q.2.1 h_20 | exact fun q => q.2.2 h_28
  · replace h_11 := bI_1.mp h_11
    refine z_iload_n F dX7_felt_14 rfl ?_
    refine z_bipush (v := 99) F dX7_felt_15 (by decide) ?_
    refine z_callSi F (c_X7_isNot J) zm_X7_isNot zst_X7_isNot ml_X7_40 rfl rfl (Nat.le_of_ble_eq_true rfl) dX7_felt_17 (by omega) (fun r_17 M_17 h_17 => ?_)
    obtain ⟨e_17, rfl⟩ := h_17
    replace e_17 := Eq.symm e_17
    subst e_17
    refine z_if_ne (tgt := 31) F dX7_felt_20 (by decide) (fun h_20 => ?_) (fun h_20 => ?_)
    · replace h_20 := bI_1.mp h_20
      refine z_iconst (v := (-1)) F dX7_felt_31 (by decide) ?_
      refine z_iret F X dX7_felt_32 ?_
      refine ⟨rfl, (if_neg ?_).symm⟩
      first | exact fun q => h_11 q.1 | exact fun q => q.2.1 h_20 | exact fun q => q.2.2 h_28
    · replace h_20 := bI_0.mp h_20
      refine z_iload_n F dX7_felt_23 rfl ?_
      refine z_iconst (v := 1) F dX7_felt_24 (by decide) ?_
      refine z_callSi F (c_X7_isNot J) zm_X7_isNot zst_X7_isNot ml_X7_40 rfl rfl (Nat.le_of_ble_eq_true rfl) dX7_felt_25 (by omega) (fun r_25 M_25 h_25 => ?_)
      obtain ⟨e_25, rfl⟩ := h_25
      replace e_25 := Eq.symm e_25
      subst e_25
      refine z_if_eq (tgt := 33) F dX7_felt_28 (by decide) (fun h_28 => ?_) (fun h_28 => ?_)
      · replace h_28 := bI_0.mp h_28
        refine z_aload_n F dX7_felt_33 rfl ?_
        refine zg_X7_now F (by with_reducible assumption) fl_X7_10 dX7_felt_34 (fun hk_34 => ?_)
        refine zg_X6_road F (by with_reducible assumption) fl_X7_44 dX7_felt_37 (fun hk_37 => ?_)
        refine zg_X1_things F (by with_reducible assumption) fl_X7_65 dX7_felt_40 (fun hk_40 => ?_)
        refine z_iload_n F dX7_felt_43 rfl ?_
        refine z_aald16 F (by with_reducible assumption) (vpl 10 (by decide) ⟨h_11.1, Int32.lt_of_lt_of_le h_11.2 hnt⟩) dX7_felt_44 (fun hk_44 hb_44 ho_44 => ?_)
        refine z_iload_n F dX7_felt_45 rfl ?_
        refine z_iload_n F dX7_felt_46 rfl ?_
        refine z_callVi F (c_X4_feltBy J (by with_reducible assumption)) zm_X4_feltBy zv_X4_feltBy ml_X7_91 (by with_reducible assumption) (by decide) rfl rfl rfl (Nat.le_of_ble_eq_true rfl) dX7_felt_47 (by omega) (fun r_47 M_47 h_47 => ?_)
        obtain ⟨e_47, rfl⟩ := h_47
        replace e_47 := Eq.symm e_47
        subst e_47
        refine z_iret F X dX7_felt_50 ?_
        rw [hb_44, ho_44]
        exact ⟨rfl, (if_pos ⟨h_11, h_20, h_28⟩).symm⟩
      · replace h_28 := bI_1.mp h_28
        refine z_iconst (v := (-1)) F dX7_felt_31 (by decide) ?_
        refine z_iret F X dX7_felt_32 ?_
        refine ⟨rfl, (if_neg ?_).symm⟩
        first | exact fun q => h_11 q.1 | exact fun q => q.2.1 h_20 | exact fun q => q.2.2 h_28
