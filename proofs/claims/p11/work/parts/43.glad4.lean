/-- they meet: how it ends -/
def mtS (th : zF1) (hd : Int32) (T U : zF1) : Int32 × zF1 × zF1 := meetL th hd 200 1 (T, U, 0)
theorem mtS_eq (th : zF1) (hd : Int32) (T U : zF1) : meetL th hd 200 1 (T, U, 0) = mtS th hd T U := by unfold mtS; with_reducible exact Eq.refl _
theorem d_X0_turnsWith {l : Launch} {w : zE} (J : zJ w) {M : zM} {f n : Nat} {x : Int32} (hk : zk f = 0) (hn : zk n = 6) (hf : f = 87) (hn1 : n = 1) (hx : 0 ≤ x ∧ x < 10) (hh : 0 ≤ M.1 (n + 15) 0 ∧ M.1 (n + 15) 0 < 10) : zCi l w yX0_turnsWith cX0_turnsWith 7 (some .int) 3 [.ref (w.2.2 f), .int x, .ref (w.2.2 n)] M (fun r M2 => zfr M M2 ∧ ∃ (U : zF1) (R : Int32 × zF1 × zF1), U 0 = x ∧ U 1 = 0 ∧ U 2 = 0 ∧ R = mtS (M.1 (n + 1 + 1)) (M.1 (n + 1) 2) (M.1 (n + 15)) U ∧ r = R.1 ∧ M2.1 (f + 15) = R.2.1 ∧ M2.1 (f + 17) = R.2.2) :=
  zCi_mono (fun r M2 ⟨h1, U, u0, u1, u2, h2, h3, h4⟩ => by
    rw [mtS_eq] at h2 h3 h4
    exact ⟨M2, zEq.rf _, h1, U, _, u0, u1, u2, Eq.refl _, h2, h3, h4⟩) (c_X0_turnsWith (np := 0) (a := 0) J hk hn hf hn1 hx hh)
theorem c_X7_meet {l : Launch} {w : zE} (J : zJ w) {M : zM} {o np : Nat} {x k : Int32} (hk : zk o = 7) (ho : o = 0) (hnt : M.1 (o + 1 + 1) 0 ≤ 10) (hnp : M.1 (o + 1 + 1) 1 = nI np) (h8 : np ≤ 8) (hh : M.1 (o + 1 + 15) 0 = -4 ∨ 0 ≤ M.1 (o + 1 + 15) 0 ∧ M.1 (o + 1 + 15) 0 < 10) : zCi l w yX7_meet cX7_meet 4 (some .int) 4 [.ref (w.2.2 o), .int x, .int k] M (fun r M2 => zfr M M2 ∧ ∃ (U : zF1) (R : Int32 × zF1 × zF1), U 0 = x ∧ U 1 = 0 ∧ U 2 = 0 ∧ R = mtS (M.1 (o + 1 + 1 + 1)) (M.1 (o + 1 + 1) 2) (M.1 (o + 1 + 15)) U ∧ r = if (0 ≤ x ∧ x < M.1 (o + 1 + 1) 0) ∧ ¬ (k < 0 ∨ 2 < k) then (if ¬ whoF (M.1 (o + 1 + 15)) np x = -4 ∨ M.1 (o + 1 + 15) 0 = -4 then -2 else if R.1 = -4 ∨ k = 0 then R.1 else if k = 1 then R.2.1 0 else R.2.2 0) else -1) := by
  have hU0 : ∃ U : zF1, U 0 = x ∧ U 1 = 0 ∧ U 2 = 0 := ⟨fun q => if q = 0 then x else 0, Eq.refl _, Eq.refl _, Eq.refl _⟩
  obtain ⟨U0, u0, u1, u2⟩ := hU0
  refine zCi_of J zm_X7_meet [some (.ref (w.2.2 o)), some (.int x), some (.int k), none] (Nat.le_of_ble_eq_true rfl) rfl (fun g hg F X => ?_)
  subst hg
  refine z_aload_n F dX7_meet_0 rfl ?_
  refine zg_X7_now F (by with_reducible assumption) fl_X7_10 dX7_meet_1 (fun hk_1 => ?_)
  refine zg_X6_road F (by with_reducible assumption) fl_X7_44 dX7_meet_4 (fun hk_4 => ?_)
  refine z_iload_n F dX7_meet_7 rfl ?_
  refine z_callVi F (c_X1_isThing J (by with_reducible assumption)) zm_X1_isThing zv_X1_isThing ml_X7_61 (by with_reducible assumption) (by decide) rfl rfl rfl (Nat.le_of_ble_eq_true rfl) dX7_meet_8 (by omega) (fun r_8 M_8 h_8 => ?_)
  obtain ⟨e_8, rfl⟩ := h_8
  replace e_8 := Eq.symm e_8
  subst e_8
  refine z_if_eq (tgt := 22) F dX7_meet_11 (by decide) (fun h_11 => ?_) (fun h_11 => ?_)
  · replace h_11 := bI_0.mp h_11
    try simp only [f3, f4] at h_11
    refine z_iconst (v := (-1)) F dX7_meet_22 (by decide) ?_
    refine z_iret F X dX7_meet_23 ?_
    refine ⟨zfr.rf M, U0, _, u0, u1, u2, Eq.refl _, (if_neg ?_).symm⟩
    first | exact fun q => h_11 q.1 | exact fun q => q.2 h_19
  · replace h_11 := bI_1.mp h_11
    try simp only [f3, f4] at h_11
    refine z_iload_n F dX7_meet_14 rfl ?_
    refine z_iconst (v := 2) F dX7_meet_15 (by decide) ?_
    refine z_callSi F (c_X7_isNot J) zm_X7_isNot zst_X7_isNot ml_X7_40 rfl rfl (Nat.le_of_ble_eq_true rfl) dX7_meet_16 (by omega) (fun r_16 M_16 h_16 => ?_)
    obtain ⟨e_16, rfl⟩ := h_16
    replace e_16 := Eq.symm e_16
    subst e_16
    refine z_if_eq (tgt := 24) F dX7_meet_19 (by decide) (fun h_19 => ?_) (fun h_19 => ?_)
    · replace h_19 := bI_0.mp h_19
      try simp only [f3, f4] at h_19
      refine z_aload_n F dX7_meet_24 rfl ?_
      refine z_iload_n F dX7_meet_25 rfl ?_
      refine z_callVi F (c_X7_isHad J hk hnp (by omega)) zm_X7_isHad zv_X7_isHad ml_X7_98 (by with_reducible assumption) (by decide) rfl rfl rfl (Nat.le_of_ble_eq_true rfl) dX7_meet_26 (by omega) (fun r_26 M_26 h_26 => ?_)
      obtain ⟨e_26, rfl⟩ := h_26
      replace e_26 := Eq.symm e_26
      subst e_26
      refine z_if_ne (tgt := 47) F dX7_meet_29 (by decide) (fun h_29 => ?_) (fun h_29 => ?_)
      · replace h_29 := bI_1.mp h_29
        try simp only [f3, f4] at h_29
        refine z_bipush (v := (-2)) F dX7_meet_47 (by decide) ?_
        refine z_iret F X dX7_meet_49 ?_
        refine ⟨zfr.rf M, U0, _, u0, u1, u2, Eq.refl _, ?_⟩
        rw [if_pos ⟨h_11, h_19⟩]
        first | exact (if_pos (Or.inl h_29)).symm | exact (if_pos (Or.inr h_44)).symm
      · replace h_29 := bI_0.mp h_29
        try simp only [f3, f4] at h_29
        refine z_aload_n F dX7_meet_32 rfl ?_
        refine zg_X7_now F (by with_reducible assumption) fl_X7_10 dX7_meet_33 (fun hk_33 => ?_)
        refine zg_X6_trip F (by with_reducible assumption) fl_X7_83 dX7_meet_36 (fun hk_36 => ?_)
        refine zg_X5_his F (by with_reducible assumption) fl_X7_123 dX7_meet_39 ?_
        try simp only [f3, f4]
        refine z_bipush (v := (-4)) F dX7_meet_42 (by decide) ?_
        refine z_ic_ne (tgt := 50) F dX7_meet_44 (by decide) (fun h_44 => ?_) (fun h_44 => ?_)
        · try simp only [f3, f4] at h_44
          refine z_aload_n F dX7_meet_50 rfl ?_
          refine zg_X7_foresight F (by with_reducible assumption) fl_X7_29 dX7_meet_51 (fun hk_51 => ?_)
          refine z_iload_n F dX7_meet_54 rfl ?_
          refine z_aload_n F dX7_meet_55 rfl ?_
          refine zg_X7_now F (by with_reducible assumption) fl_X7_10 dX7_meet_56 (fun hk_56 => ?_)
          refine z_callVi F (d_X0_turnsWith J (by with_reducible assumption) (by with_reducible assumption) (by omega) (by omega) ⟨h_11.1, Int32.lt_of_lt_of_le h_11.2 hnt⟩ (hh.resolve_left h_44)) zm_X0_turnsWith zv_X0_turnsWith ml_X7_206 (by with_reducible assumption) (by decide) rfl rfl rfl (Nat.le_of_ble_eq_true rfl) dX7_meet_59 (by omega) (fun r_59 M_59 h_59 => ?_)
          obtain ⟨f1, U, R, a0, a1, a2, f0, f2, f3, f4⟩ := h_59
          have hc : (0 ≤ x ∧ x < M.1 (o + 1 + 1) 0) ∧ ¬ (k < 0 ∨ 2 < k) := ⟨h_11, h_19⟩
          have hn : ¬ (¬ whoF (M.1 (o + 1 + 15)) np x = -4 ∨ M.1 (o + 1 + 15) 0 = -4) := fun q => q.elim h_29 h_44
          subst f2
          refine z_istore_n (lv' := [_, _, _, _]) F dX7_meet_62 (by decide) rfl rfl ?_
          refine z_iload_n F dX7_meet_63 rfl ?_
          refine z_bipush (v := (-4)) F dX7_meet_64 (by decide) ?_
          refine z_ic_eq (tgt := 73) F dX7_meet_66 (by decide) (fun h_66 => ?_) (fun h_66 => ?_)
          · try simp only [f3, f4] at h_66
            refine z_iload_n F dX7_meet_73 rfl ?_
            refine z_iret F X dX7_meet_74 ?_
            refine ⟨f1, U, R, a0, a1, a2, f0, ?_⟩
            rw [if_pos hc, if_neg hn]
            first | exact (if_pos (Or.inl h_66)).symm | exact (if_pos (Or.inr h_70)).symm
          · try simp only [f3, f4] at h_66
            refine z_iload_n F dX7_meet_69 rfl ?_
            refine z_if_ne (tgt := 75) F dX7_meet_70 (by decide) (fun h_70 => ?_) (fun h_70 => ?_)
            · try simp only [f3, f4] at h_70
              refine z_iload_n F dX7_meet_75 rfl ?_
              refine z_iconst (v := 1) F dX7_meet_76 (by decide) ?_
              refine z_ic_ne (tgt := 93) F dX7_meet_77 (by decide) (fun h_77 => ?_) (fun h_77 => ?_)
              · try simp only [f3, f4] at h_77
                refine z_aload_n F dX7_meet_93 rfl ?_
                refine zg_X7_foresight F (by with_reducible assumption) fl_X7_29 dX7_meet_94 (fun hk_94 => ?_)
                refine zg_X0_other F (by with_reducible assumption) fl_X7_210 dX7_meet_97 (fun hk_97 => ?_)
                refine zg_X5_his F (by with_reducible assumption) fl_X7_123 dX7_meet_100 ?_
                try simp only [f3, f4]
                refine z_iret F X dX7_meet_103 ?_
                refine ⟨f1, U, R, a0, a1, a2, f0, ?_⟩
                rw [if_pos hc, if_neg hn, if_neg (fun q => q.elim h_66 h_70), if_neg h_77]
              · try simp only [f3, f4] at h_77
                refine z_aload_n F dX7_meet_80 rfl ?_
                refine zg_X7_foresight F (by with_reducible assumption) fl_X7_29 dX7_meet_81 (fun hk_81 => ?_)
                refine zg_X0_trip F (by with_reducible assumption) fl_X7_209 dX7_meet_84 (fun hk_84 => ?_)
                refine zg_X5_his F (by with_reducible assumption) fl_X7_123 dX7_meet_87 ?_
                try simp only [f3, f4]
                refine z_goto (tgt := 103) F dX7_meet_90 (by decide) ?_
                refine z_iret F X dX7_meet_103 ?_
                refine ⟨f1, U, R, a0, a1, a2, f0, ?_⟩
                rw [if_pos hc, if_neg hn, if_neg (fun q => q.elim h_66 h_70), if_pos h_77]
            · try simp only [f3, f4] at h_70
              refine z_iload_n F dX7_meet_73 rfl ?_
              refine z_iret F X dX7_meet_74 ?_
              refine ⟨f1, U, R, a0, a1, a2, f0, ?_⟩
              rw [if_pos hc, if_neg hn]
              first | exact (if_pos (Or.inl h_66)).symm | exact (if_pos (Or.inr h_70)).symm
        · try simp only [f3, f4] at h_44
          refine z_bipush (v := (-2)) F dX7_meet_47 (by decide) ?_
          refine z_iret F X dX7_meet_49 ?_
          refine ⟨zfr.rf M, U0, _, u0, u1, u2, Eq.refl _, ?_⟩
          rw [if_pos ⟨h_11, h_19⟩]
          first | exact (if_pos (Or.inl h_29)).symm | exact (if_pos (Or.inr h_44)).symm
    · replace h_19 := bI_1.mp h_19
      try simp only [f3, f4] at h_19
      refine z_iconst (v := (-1)) F dX7_meet_22 (by decide) ?_
      refine z_iret F X dX7_meet_23 ?_
      refine ⟨zfr.rf M, U0, _, u0, u1, u2, Eq.refl _, (if_neg ?_).symm⟩
      first | exact fun q => h_11 q.1 | exact fun q => q.2 h_19
/-- a fraction over 2^j, shortened -/
def redL : Nat → Int32 → Int32 × Int32
  | 0, u => (u, 1)
  | j + 1, u => if u - u / 2 * 2 = 0 then redL j (u / 2) else (u, nI (2 ^ (j + 1)))
theorem pw_lt : ∀ j, j < 11 → 2 ^ j < 2 ^ 31 := by decide
theorem pw_sh : ∀ j, j < 11 → (1 : Int32) <<< (nI j &&& 31) = nI (2 ^ j) := by decide +kernel
theorem pw_dv : ∀ j, j < 11 → nI (2 ^ (j + 1)) / 2 = nI (2 ^ j) := by decide +kernel
theorem pw_gt : ∀ j, j < 11 → ¬ nI (2 ^ (j + 1)) ≤ 1 := by decide +kernel
theorem c_X7_chance {l : Launch} {w : zE} (J : zJ w) {M : zM} {o np a : Nat} {x k : Int32} (hk : zk o = 7) (ho : o = 0) (ok : nowOK M (o + 1) np a) : zCi l w yX7_chance cX7_chance 6 (some .int) 26 [.ref (w.2.2 o), .int x, .int k] M (fun r M2 => zfr M M2 ∧ r = if (¬ x = -4 ∧ ¬ (0 ≤ x ∧ x < M.1 (o + 1 + 1) 0)) ∨ (k < 0 ∨ 1 < k) then -1 else if a < 2 then -3 else if k = 0 then (redL (12 - a) (waysF (M.1 (o + 1 + 1)) (M.1 (o + 1 + 1 + 1)) (M.1 (o + 1 + 1 + 12)) np x 10 (M.1 (o + 1 + 15)))).1 else (redL (12 - a) (waysF (M.1 (o + 1 + 1)) (M.1 (o + 1 + 1 + 1)) (M.1 (o + 1 + 1 + 12)) np x 10 (M.1 (o + 1 + 15)))).2) := by
  obtain ⟨o1, o2, o3, o4, o5⟩ := id ok
  have hsub : 12 - nI a = nI (12 - a) := pk_sub (a := 12) (b := a) o5
  refine zCi_of J zm_X7_chance [some (.ref (w.2.2 o)), some (.int x), some (.int k), none, none, none] (Nat.le_of_ble_eq_true rfl) rfl (fun g hg F X => ?_)
  subst hg
  generalize hW : waysF (M.1 (o + 1 + 1)) (M.1 (o + 1 + 1 + 1)) (M.1 (o + 1 + 1 + 12)) np x 10 (M.1 (o + 1 + 15)) = W at X
  have key : ¬ ((¬ x = -4 ∧ ¬ (0 ≤ x ∧ x < M.1 (o + 1 + 1) 0)) ∨ (k < 0 ∨ 1 < k)) → ¬ a < 2 → ∀ (M' : zM) (j : Nat) (u : Int32), j < 11 → zfr M M' → redL j u = redL (12 - a) W → ZW w g 6 60 [some (.ref (w.2.2 o)), some (.int x), some (.int k), some (.int (nI (12 - a))), some (.int u), some (.int (nI (2 ^ j)))] [] M' := by
    intro hb ha M' j
    induction j with
    | zero =>
      intro u hj hf hs
      refine z_iload F dX7_chance_60 rfl ?_
      refine z_iconst (v := 1) F dX7_chance_62 (by decide) ?_
      refine z_ic_le (tgt := 88) F dX7_chance_63 (by decide) (fun h_63 => ?_) (fun h_63 => absurd h_63 (by decide))
      refine z_iload_n F dX7_chance_88 rfl ?_
      refine z_if_ne (tgt := 97) F dX7_chance_89 (by decide) (fun h_89 => ?_) (fun h_89 => ?_)
      · refine z_iload F dX7_chance_97 rfl ?_
        refine z_iret F X dX7_chance_99 ?_
        exact ⟨hf, by rw [if_neg hb, if_neg ha, if_neg h_89, ← hs]; rfl⟩
      · refine z_iload F dX7_chance_92 rfl ?_
        refine z_goto (tgt := 99) F dX7_chance_94 (by decide) ?_
        refine z_iret F X dX7_chance_99 ?_
        exact ⟨hf, by rw [if_neg hb, if_neg ha, if_pos h_89, ← hs]; rfl⟩
    | succ j ih =>
      intro u hj hf hs
      rw [redL] at hs
      refine z_iload F dX7_chance_60 rfl ?_
      refine z_iconst (v := 1) F dX7_chance_62 (by decide) ?_
      refine z_ic_le (tgt := 88) F dX7_chance_63 (by decide) (fun h_63 => absurd h_63 (pw_gt j (by omega))) (fun h_63 => ?_)
      refine z_iload F dX7_chance_66 rfl ?_
      refine z_iconst (v := 2) F dX7_chance_68 (by decide) ?_
      refine z_irem F dX7_chance_69 (by decide) ?_
      refine z_if_ne (tgt := 88) F dX7_chance_70 (by decide) (fun h_70 => ?_) (fun h_70 => ?_)
      · refine z_iload_n F dX7_chance_88 rfl ?_
        refine z_if_ne (tgt := 97) F dX7_chance_89 (by decide) (fun h_89 => ?_) (fun h_89 => ?_)
        · refine z_iload F dX7_chance_97 rfl ?_
          refine z_iret F X dX7_chance_99 ?_
          rw [if_neg h_70] at hs
          exact ⟨hf, by rw [if_neg hb, if_neg ha, if_neg h_89, ← hs]⟩
        · refine z_iload F dX7_chance_92 rfl ?_
          refine z_goto (tgt := 99) F dX7_chance_94 (by decide) ?_
          refine z_iret F X dX7_chance_99 ?_
          rw [if_neg h_70] at hs
          exact ⟨hf, by rw [if_neg hb, if_neg ha, if_pos h_89, ← hs]⟩
      · refine z_iload F dX7_chance_73 rfl ?_
        refine z_iconst (v := 2) F dX7_chance_75 (by decide) ?_
        refine z_idiv F dX7_chance_76 (by decide) ?_
        refine z_istore (lv' := [_, _, _, _, _, _]) F dX7_chance_77 (by decide) rfl rfl ?_
        refine z_iload F dX7_chance_79 rfl ?_
        refine z_iconst (v := 2) F dX7_chance_81 (by decide) ?_
        refine z_idiv F dX7_chance_82 (by decide) ?_
        refine z_istore (lv' := [_, _, _, _, _, _]) F dX7_chance_83 (by decide) rfl rfl ?_
        refine z_goto (tgt := 60) F dX7_chance_85 (by decide) ?_
        rw [pw_dv j (by omega)]
        rw [if_pos h_70] at hs
        exact ih (u / 2) (by omega) hf hs
  refine z_aload_n F dX7_chance_0 rfl ?_
  refine z_iload_n F dX7_chance_1 rfl ?_
  refine z_callVi F (c_X7_isNoThingOrNone J hk) zm_X7_isNoThingOrNone zv_X7_isNoThingOrNone ml_X7_95 (by with_reducible assumption) (by decide) rfl rfl rfl (Nat.le_of_ble_eq_true rfl) dX7_chance_2 (by omega) (fun r_2 M_2 h_2 => ?_)
  obtain ⟨e_2, rfl⟩ := h_2
  replace e_2 := Eq.symm e_2
  subst e_2
  refine z_if_ne (tgt := 16) F dX7_chance_5 (by decide) (fun h_5 => ?_) (fun h_5 => ?_)
  · replace h_5 := bI_1.mp h_5
    try simp only [o4] at h_5
    refine z_iconst (v := (-1)) F dX7_chance_16 (by decide) ?_
    refine z_iret F X dX7_chance_17 ?_
    refine ⟨zfr.rf M, (if_pos ?_).symm⟩
    first | exact Or.inl h_5 | exact Or.inr h_13
  · replace h_5 := bI_0.mp h_5
    try simp only [o4] at h_5
    refine z_iload_n F dX7_chance_8 rfl ?_
    refine z_iconst (v := 1) F dX7_chance_9 (by decide) ?_
    refine z_callSi F (c_X7_isNot J) zm_X7_isNot zst_X7_isNot ml_X7_40 rfl rfl (Nat.le_of_ble_eq_true rfl) dX7_chance_10 (by omega) (fun r_10 M_10 h_10 => ?_)
    obtain ⟨e_10, rfl⟩ := h_10
    replace e_10 := Eq.symm e_10
    subst e_10
    refine z_if_eq (tgt := 18) F dX7_chance_13 (by decide) (fun h_13 => ?_) (fun h_13 => ?_)
    · replace h_13 := bI_0.mp h_13
      try simp only [o4] at h_13
      refine z_bipush (v := 12) F dX7_chance_18 (by decide) ?_
      refine z_aload_n F dX7_chance_20 rfl ?_
      refine zg_X7_now F (by with_reducible assumption) fl_X7_10 dX7_chance_21 (fun hk_21 => ?_)
      refine zg_X6_trip F (by with_reducible assumption) fl_X7_83 dX7_chance_24 (fun hk_24 => ?_)
      refine zg_X5_ahead F (by with_reducible assumption) fl_X7_130 dX7_chance_27 ?_
      try simp only [o4]
      refine z_isub F dX7_chance_30 ?_
      rw [hsub]
      refine z_istore_n (lv' := [_, _, _, _, _, _]) F dX7_chance_31 (by decide) rfl rfl ?_
      refine z_iload_n F dX7_chance_32 rfl ?_
      refine z_bipush (v := 10) F dX7_chance_33 (by decide) ?_
      refine z_ic_le (tgt := 41) F dX7_chance_35 (by decide) (fun h_35 => ?_) (fun h_35 => ?_)
      · try simp only [o4] at h_35
        refine z_aload_n F dX7_chance_41 rfl ?_
        refine zg_X7_foresight F (by with_reducible assumption) fl_X7_29 dX7_chance_42 (fun hk_42 => ?_)
        refine z_iload_n F dX7_chance_45 rfl ?_
        refine z_aload_n F dX7_chance_46 rfl ?_
        refine zg_X7_now F (by with_reducible assumption) fl_X7_10 dX7_chance_47 (fun hk_47 => ?_)
        refine z_callVi F (c_X0_waysTo J (by with_reducible assumption) (by with_reducible assumption) (by omega) (by omega) ok) zm_X0_waysTo zv_X0_waysTo ml_X7_219 (by with_reducible assumption) (by decide) rfl rfl rfl (Nat.le_of_ble_eq_true rfl) dX7_chance_50 (by omega) (fun r_50 M_50 h_50 => ?_)
        obtain ⟨f1, f2⟩ := h_50
        rw [hW] at f2
        subst f2
        have ha : ¬ a < 2 := fun z => by
          have := (nI_leI (b := 10) (by omega) (by decide)).mp h_35
          omega
        refine z_istore (lv' := [_, _, _, _, _, _]) F dX7_chance_53 (by decide) rfl rfl ?_
        refine z_iconst (v := 1) F dX7_chance_55 (by decide) ?_
        refine z_iload_n F dX7_chance_56 rfl ?_
        refine z_ishl F dX7_chance_57 ?_
        refine z_istore (lv' := [_, _, _, _, _, _]) F dX7_chance_58 (by decide) rfl rfl ?_
        rw [pw_sh (12 - a) (by omega)]
        exact key (fun q => q.elim h_5 h_13) ha _ (12 - a) _ (by omega) f1 rfl
      · try simp only [o4] at h_35
        refine z_bipush (v := (-3)) F dX7_chance_38 (by decide) ?_
        refine z_iret F X dX7_chance_40 ?_
        have ha : a < 2 := by
          have := (nI_ltI (a := 10) (by decide) (by omega)).mp h_35
          omega
        exact ⟨zfr.rf M, by rw [if_neg (fun q => q.elim h_5 h_13), if_pos ha]⟩
    · replace h_13 := bI_1.mp h_13
      try simp only [o4] at h_13
      refine z_iconst (v := (-1)) F dX7_chance_16 (by decide) ?_
      refine z_iret F X dX7_chance_17 ?_
      refine ⟨zfr.rf M, (if_pos ?_).symm⟩
      first | exact Or.inl h_5 | exact Or.inr h_13
/-- nothing but the tape's own blocks differs -/
def ztf (M M' : zM) : Prop := M'.2 = M.2 ∧ ∀ b, (b < 69 ∨ 87 ≤ b) → M'.1 b = M.1 b
theorem c_X7_road {l : Launch} {w : zE} (J : zJ w) {M : zM} {o len : Nat} (hk : zk o = 7) (ho : o = 0) (hl : M.1 (o + 69) 1 = nI len) (h120 : len ≤ 120) (hL : ltOK (M.1 (o + 69 + 1)) len) : zCi l w yX7_road cX7_road 2 (some .int) 7 [.ref (w.2.2 o)] M (fun r M2 =>
    ((roadF (M.1 (o + 69 + 1)) len (M.1 (o + 1 + 1 + 1)) (M.1 (o + 1 + 1 + 12)) (tT0 (M.1 (o + 1 + 15)))).1 = 0 ∧ r = -20 - nI (roadF (M.1 (o + 69 + 1)) len (M.1 (o + 1 + 1 + 1)) (M.1 (o + 1 + 1 + 12)) (tT0 (M.1 (o + 1 + 15)))).2.1 ∧ ztf M M2 ∧ M2.1 (o + 69) 1 = 0)
    ∨ (¬ (roadF (M.1 (o + 69 + 1)) len (M.1 (o + 1 + 1 + 1)) (M.1 (o + 1 + 1 + 12)) (tT0 (M.1 (o + 1 + 15)))).1 = 0 ∧ ∃ (M1 : zM) (S : zRd), S = (roadF (M.1 (o + 69 + 1)) len (M.1 (o + 1 + 1 + 1)) (M.1 (o + 1 + 1 + 12)) (tT0 (M.1 (o + 1 + 15)))).2.2 ∧ r = nI S.1 ∧ ztf M M1 ∧ M1.1 (o + 69) 1 = 0 ∧ M2 = zs (za (zrd M1 (o + 1 + 1) (va_up (va_up (M.1 (o + 1 + 1)) 0 (nI S.1)) 1 (nI S.2.2.1)) S.2.1 S.2.2.2.1) (o + 1 + 15) S.2.2.2.2) (o + 1) 3 0)) := by
  refine zCi_of J zm_X7_road [some (.ref (w.2.2 o)), none] (Nat.le_of_ble_eq_true rfl) rfl (fun g hg F X => ?_)
  subst hg
  generalize hR : roadF (M.1 (o + 69 + 1)) len (M.1 (o + 1 + 1 + 1)) (M.1 (o + 1 + 1 + 12)) (tT0 (M.1 (o + 1 + 15))) = R at X
  refine z_aload_n F dX7_road_0 rfl ?_
  refine zg_X7_tape F (by with_reducible assumption) fl_X7_22 dX7_road_1 (fun hk_1 => ?_)
  refine z_aload_n F dX7_road_4 rfl ?_
  refine zg_X7_now F (by with_reducible assumption) fl_X7_10 dX7_road_5 (fun hk_5 => ?_)
  refine z_callVi F (c_X3_readRoad J (by with_reducible assumption) (by with_reducible assumption) (by omega) (by omega) hl h120 hL) zm_X3_readRoad zv_X3_readRoad ml_X7_155 (by with_reducible assumption) (by decide) rfl rfl rfl (Nat.le_of_ble_eq_true rfl) dX7_road_8 (by omega) (fun r_8 M_8 h_8 => ?_)
  rw [hR] at h_8
  obtain ⟨rfl, S, hS, hS2⟩ := h_8
  have t1 : ztf M (zs M_8 (o + 69) 1 0) := ⟨hS.2.2.2.2.2.1, fun b q => by rw [zs_off _ (by omega)]; exact hS.2.2.2.2.2.2 b (by omega) (by omega) (by omega) (by omega) (by omega) (by omega)⟩
  have t2 : (zs M_8 (o + 69) 1 0).1 (o + 69) 1 = 0 := by rw [zs_at, va_up_self]
  have t3 : (zs M_8 (o + 69) 1 0).1 (o + 69) 2 = nI R.2.1 := by rw [zs_at, va_up_ne _ _ (by decide), hS.1, va_up_self]
  have t4 : (zs M_8 (o + 69) 1 0).1 (o + 69 + 2) = va_up (va_up (M.1 (o + 1 + 1)) 0 (nI S.1)) 1 (nI S.2.2.1) := by rw [zs_off _ (by omega), hS.2.1]
  have t5 : (zs M_8 (o + 69) 1 0).1 (o + 69 + 2 + 1) = S.2.1 := by rw [zs_off _ (by omega), hS.2.2.1]
  have t6 : (zs M_8 (o + 69) 1 0).1 (o + 69 + 2 + 12) = S.2.2.2.1 := by rw [zs_off _ (by omega), hS.2.2.2.1]
  have t7 : (zs M_8 (o + 69) 1 0).1 (o + 69 + 16) = S.2.2.2.2 := by rw [zs_off _ (by omega), hS.2.2.2.2.1]
  refine z_istore_n (lv' := [_, _]) F dX7_road_11 (by decide) rfl rfl ?_
  refine z_aload_n F dX7_road_12 rfl ?_
  refine zg_X7_tape F (by with_reducible assumption) fl_X7_22 dX7_road_13 (fun hk_13 => ?_)
  refine z_iconst (v := 0) F dX7_road_16 (by decide) ?_
  refine zp_X3_length F (by with_reducible assumption) fl_X7_148 dX7_road_17 ?_
  generalize zs M_8 (o + 69) 1 0 = M1 at t1 t2 t3 t4 t5 t6 t7 ⊢
  refine z_iload_n F dX7_road_20 rfl ?_
  refine z_if_ne (tgt := 35) F dX7_road_21 (by decide) (fun h_21 => ?_) (fun h_21 => ?_)
  · try simp only [t3] at h_21
    refine z_aload_n F dX7_road_35 rfl ?_
    refine zg_X7_now F (by with_reducible assumption) fl_X7_10 dX7_road_36 (fun hk_36 => ?_)
    refine zg_X6_road F (by with_reducible assumption) fl_X7_44 dX7_road_39 (fun hk_39 => ?_)
    refine z_aload_n F dX7_road_42 rfl ?_
    refine zg_X7_tape F (by with_reducible assumption) fl_X7_22 dX7_road_43 (fun hk_43 => ?_)
    refine zg_X3_road F (by with_reducible assumption) fl_X7_162 dX7_road_46 (fun hk_46 => ?_)
    refine z_callVv F (d_X1_setFrom J (by with_reducible assumption) (by with_reducible assumption) (by omega)) zm_X1_setFrom zv_X1_setFrom ml_X7_163 (by with_reducible assumption) (by decide) rfl rfl rfl (Nat.le_of_ble_eq_true rfl) dX7_road_49 (by omega) (fun M_49 h_49 => ?_)
    replace h_49 := Eq.symm h_49
    subst h_49
    rw [t4, t5, t6]
    have u1 : (zrd M1 (o + 1 + 1) (va_up (va_up (M.1 (o + 1 + 1)) 0 (nI S.1)) 1 (nI S.2.2.1)) S.2.1 S.2.2.2.1).1 (o + 69 + 16) = S.2.2.2.2 := by unfold zrd; rw [za_off _ (by omega), za_off _ (by omega), za_off _ (by omega), t7]
    have u2 : ∀ h, (zs (za (zrd M1 (o + 1 + 1) (va_up (va_up (M.1 (o + 1 + 1)) 0 (nI S.1)) 1 (nI S.2.2.1)) S.2.1 S.2.2.2.1) (o + 1 + 15) h) (o + 1) 3 0).1 (o + 1 + 1) 0 = nI S.1 := fun h => by unfold zrd; rw [zs_off _ (by omega), za_off _ (by omega), za_at]; rfl
    refine z_aload_n F dX7_road_52 rfl ?_
    refine zg_X7_now F (by with_reducible assumption) fl_X7_10 dX7_road_53 (fun hk_53 => ?_)
    refine zg_X6_trip F (by with_reducible assumption) fl_X7_83 dX7_road_56 (fun hk_56 => ?_)
    refine z_aload_n F dX7_road_59 rfl ?_
    refine zg_X7_tape F (by with_reducible assumption) fl_X7_22 dX7_road_60 (fun hk_60 => ?_)
    refine zg_X3_trip F (by with_reducible assumption) fl_X7_167 dX7_road_63 (fun hk_63 => ?_)
    refine z_callVv F (d_X5_setFrom J (by with_reducible assumption) (by with_reducible assumption) (by omega)) zm_X5_setFrom zv_X5_setFrom ml_X7_168 (by with_reducible assumption) (by decide) rfl rfl rfl (Nat.le_of_ble_eq_true rfl) dX7_road_66 (by omega) (fun M_66 h_66 => ?_)
    replace h_66 := Eq.symm h_66
    subst h_66
    rw [u1]
    refine z_aload_n F dX7_road_69 rfl ?_
    refine zg_X7_now F (by with_reducible assumption) fl_X7_10 dX7_road_70 (fun hk_70 => ?_)
    refine z_iconst (v := 0) F dX7_road_73 (by decide) ?_
    refine zp_X6_known F (by with_reducible assumption) fl_X7_54 dX7_road_74 ?_
    refine z_aload_n F dX7_road_77 rfl ?_
    refine zg_X7_now F (by with_reducible assumption) fl_X7_10 dX7_road_78 (fun hk_78 => ?_)
    refine zg_X6_road F (by with_reducible assumption) fl_X7_44 dX7_road_81 (fun hk_81 => ?_)
    refine zg_X1_thingCount F (by with_reducible assumption) fl_X7_48 dX7_road_84 ?_
    try simp only [t3]
    refine z_iret F X dX7_road_87 ?_
    rw [u2]
    exact Or.inr ⟨h_21, M1, S, hS2 h_21, rfl, t1, t2, rfl⟩
  · try simp only [t3] at h_21
    refine z_bipush (v := (-20)) F dX7_road_24 (by decide) ?_
    refine z_aload_n F dX7_road_26 rfl ?_
    refine zg_X7_tape F (by with_reducible assumption) fl_X7_22 dX7_road_27 (fun hk_27 => ?_)
    refine zg_X3_place F (by with_reducible assumption) fl_X7_159 dX7_road_30 ?_
    try simp only [t3]
    refine z_isub F dX7_road_33 ?_
    refine z_iret F X dX7_road_34 ?_
    exact Or.inl ⟨h_21, rfl, t1, t2⟩
