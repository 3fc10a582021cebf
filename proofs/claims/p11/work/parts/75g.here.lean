/-! the reference reads: the next letter that is no blank -/
theorem zs_same (M : zM) (b o : Nat) {v : Int32} (h : M.1 b o = v) : zs M b o v = M := by rw [zs_za, ← h, va_up_id, za_self]
theorem c_X8_here {l : Launch} {w : zE} (J : zJ w) {M : zM} {o len p : Nat} (hk : zk o = 8) (ho : o = 138) (hl : M.1 o 10 = nI len) (h120 : len ≤ 120) (hp : M.1 o 11 = nI p) (hpl : p ≤ len) : zCi l w yX8_here cX8_here 1 (some .int) 0 [.ref (w.2.2 o)] M (fun r M2 => M2 = zs M o 11 (nI (nxP (M.1 (o + 4)) (len - p) p)) ∧ r = chF (M.1 (o + 4)) len (nxP (M.1 (o + 4)) (len - p) p)) := by
  obtain ⟨hz1, hz2, hz3, hz4, hz5, hz6, hz7, hz8, hz9, hz10, hz11, hz12, hz13, hz14, hz15⟩ := zn8 ho
  have s11 : ∀ v : Int32, (zs M o 11 v).1 o 11 = v := fun v => by rw [zs_at, va_up_self]
  have s10 : ∀ v : Int32, (zs M o 11 v).1 o 10 = nI len := fun v => by rw [zs_at, va_up_ne _ _ (by decide), hl]
  have s4 : ∀ v : Int32, (zs M o 11 v).1 (o + 4) = M.1 (o + 4) := fun v => zs_off _ (by omega)
  refine zCi_of J zm_X8_here [some (.ref (w.2.2 o))] (Nat.le_of_ble_eq_true rfl) rfl (fun g hg F X => ?_)
  subst hg
  generalize hN : nxP (M.1 (o + 4)) (len - p) p = N at X
  have key : ∀ (r q : Nat), q + r = len → nxP (M.1 (o + 4)) r q = N → ZW w g 1 0 [some (.ref (w.2.2 o))] [] (zs M o 11 (nI q)) := by
    intro r
    induction r with
    | zero =>
      intro q hq hn
      obtain rfl : q = len := by omega
      have hn : q = N := hn
      subst hn
      refine z_aload_n F dX8_here_0 rfl ?_
      refine zg_X8_at F (by with_reducible assumption) fl_X8_124 dX8_here_1 ?_
      try simp only [s11, s10, s4]
      refine z_aload_n F dX8_here_4 rfl ?_
      refine zg_X8_taped F (by with_reducible assumption) fl_X8_121 dX8_here_5 ?_
      try simp only [s11, s10, s4]
      refine z_ic_ge (tgt := 38) F dX8_here_8 (by decide) (fun h_8 => ?_) (fun h_8 => absurd h_8 (fun z => absurd z (Int32.not_lt.mpr (Int32.le_refl _))))
      refine z_aload_n F dX8_here_38 rfl ?_
      refine zg_X8_at F (by with_reducible assumption) fl_X8_124 dX8_here_39 ?_
      try simp only [s11, s10, s4]
      refine z_aload_n F dX8_here_42 rfl ?_
      refine zg_X8_taped F (by with_reducible assumption) fl_X8_121 dX8_here_43 ?_
      try simp only [s11, s10, s4]
      refine z_ic_ge (tgt := 61) F dX8_here_46 (by decide) (fun h_46 => ?_) (fun h_46 => absurd h_46 (fun z => absurd z (Int32.not_lt.mpr (Int32.le_refl _))))
      refine z_iconst (v := 0) F dX8_here_61 (by decide) ?_
      refine z_iret F X dX8_here_62 ?_
      exact ⟨rfl, by rw [chF, if_neg (Nat.lt_irrefl _)]⟩
    | succ r ih =>
      intro q hq hn
      rw [nxP] at hn
      refine z_aload_n F dX8_here_0 rfl ?_
      refine zg_X8_at F (by with_reducible assumption) fl_X8_124 dX8_here_1 ?_
      try simp only [s11, s10, s4]
      refine z_aload_n F dX8_here_4 rfl ?_
      refine zg_X8_taped F (by with_reducible assumption) fl_X8_121 dX8_here_5 ?_
      try simp only [s11, s10, s4]
      refine z_ic_ge (tgt := 38) F dX8_here_8 (by decide) (fun h_8 => absurd h_8 (nI_ge (by omega) (by omega))) (fun h_8 => ?_)
      refine z_aload_n F dX8_here_11 rfl ?_
      refine zg_X8_tape F (by with_reducible assumption) fl_X8_19 dX8_here_12 (fun hk_12 => ?_)
      refine z_aload_n F dX8_here_15 rfl ?_
      refine zg_X8_at F (by with_reducible assumption) fl_X8_124 dX8_here_16 ?_
      try simp only [s11, s10, s4]
      refine z_iald10n (q := q) F (by with_reducible assumption) (by first | with_reducible rfl | (simp only [n4, n2, n3, n5, n14, n16, na1, na2, na3, nI_add, nI_1, nI_pred]; done) | (simp only [n4, n2, n3, n5, n14, n16, na1, na2, na3, nI_add, nI_1, nI_pred, Nat.add_assoc, Nat.add_comm, Nat.add_left_comm]; done)) (by rw [hz4]; omega) dX8_here_19 ?_
      try simp only [s11, s10, s4]
      refine z_bipush (v := 32) F dX8_here_20 (by decide) ?_
      refine z_ic_ne (tgt := 38) F dX8_here_22 (by decide) (fun h_22 => ?_) (fun h_22 => ?_)
      · try simp only [s11, s10, s4] at h_22
        refine z_aload_n F dX8_here_38 rfl ?_
        refine zg_X8_at F (by with_reducible assumption) fl_X8_124 dX8_here_39 ?_
        try simp only [s11, s10, s4]
        refine z_aload_n F dX8_here_42 rfl ?_
        refine zg_X8_taped F (by with_reducible assumption) fl_X8_121 dX8_here_43 ?_
        try simp only [s11, s10, s4]
        refine z_ic_ge (tgt := 61) F dX8_here_46 (by decide) (fun h_46 => absurd h_46 (nI_ge (by omega) (by omega))) (fun h_46 => ?_)
        refine z_aload_n F dX8_here_49 rfl ?_
        refine zg_X8_tape F (by with_reducible assumption) fl_X8_19 dX8_here_50 (fun hk_50 => ?_)
        refine z_aload_n F dX8_here_53 rfl ?_
        refine zg_X8_at F (by with_reducible assumption) fl_X8_124 dX8_here_54 ?_
        try simp only [s11, s10, s4]
        refine z_iald10n (q := q) F (by with_reducible assumption) (by first | with_reducible rfl | (simp only [n4, n2, n3, n5, n14, n16, na1, na2, na3, nI_add, nI_1, nI_pred]; done) | (simp only [n4, n2, n3, n5, n14, n16, na1, na2, na3, nI_add, nI_1, nI_pred, Nat.add_assoc, Nat.add_comm, Nat.add_left_comm]; done)) (by rw [hz4]; omega) dX8_here_57 ?_
        try simp only [s11, s10, s4]
        refine z_goto (tgt := 62) F dX8_here_58 (by decide) ?_
        refine z_iret F X dX8_here_62 ?_
        rw [if_neg h_22] at hn
        subst hn
        exact ⟨rfl, by rw [chF, if_pos (by omega)]⟩
      · try simp only [s11, s10, s4] at h_22
        refine z_aload_n F dX8_here_25 rfl ?_
        refine z_dup F dX8_here_26 rfl ?_
        refine zg_X8_at F (by with_reducible assumption) fl_X8_124 dX8_here_27 ?_
        try simp only [s11, s10, s4]
        refine z_iconst (v := 1) F dX8_here_30 (by decide) ?_
        refine z_iadd F dX8_here_31 ?_
        refine zp_X8_at F (by with_reducible assumption) fl_X8_124 dX8_here_32 ?_
        refine z_goto (tgt := 0) F dX8_here_35 (by decide) ?_
        rw [zs_zs, nI_1]
        rw [if_pos h_22] at hn
        exact ih (q + 1) (by omega) hn
  have K := key (len - p) p (by omega) hN
  rw [zs_same M o 11 hp] at K
  exact K
