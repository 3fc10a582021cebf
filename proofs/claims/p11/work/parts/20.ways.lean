theorem stepF_fst (rb th pe : zF1) (c : Int32) (p : Nat) (s s2 : zF1 × Int32) (h : s.1 = s2.1) : (stepF rb th pe c p s).1 = (stepF rb th pe c p s2).1 := by
  unfold stepF
  rw [h]
  split <;> simp [h]
theorem peoF_fst (rb th pe : zF1) (c : Int32) : ∀ (k : Nat) (s s2 : zF1 × Int32), s.1 = s2.1 → (peoF rb th pe c k s).1 = (peoF rb th pe c k s2).1
  | 0, s, s2, h => h
  | k + 1, s, s2, h => stepF_fst rb th pe c k _ _ (peoF_fst rb th pe c k s s2 h)
/-- a milestone, but for what refused him -/
def passT (rb th pe : zF1) (np : Nat) (c : Int32) (T : zF1) : zF1 := (passF rb th pe np c (T, 0)).1
theorem passF_fst (rb th pe : zF1) (np : Nat) (c : Int32) (s : zF1 × Int32) : (passF rb th pe np c s).1 = passT rb th pe np c s.1 := by
  unfold passT passF
  simp only [peoF_fst rb th pe c np (feelsF rb th c s.1, s.2) (feelsF rb th c s.1, 0) rfl]
/-- of all rows of cares, how many bring x home -/
def waysF (rb th pe : zF1) (np : Nat) (x : Int32) : Nat → zF1 → Int32
  | 0, T => if T 0 = x then 1 else 0
  | j + 1, T => if 12 ≤ T 3 then (if T 0 = x then 1 else 0) else
      if peoB pe (T 3) np 0 = 0 then 2 * waysF rb th pe np x j (passT rb th pe np 1 T)
      else waysF rb th pe np x j (passT rb th pe np 1 T) + waysF rb th pe np x j (passT rb th pe np 2 T)
/-- only forks behind the d-th differ -/
def zfk (f d : Nat) (M M' : zM) : Prop := M'.2 = M.2 ∧ ∀ b, (b < f + 22 + 2 * d ∨ f + 42 ≤ b) → M'.1 b = M.1 b
theorem c_ways {l : Launch} {w : zE} (J : zJ w) {f np : Nat} {x : Int32} (hk : zk f = 0) (hnp9 : np ≤ 9) : ∀ (j d : Nat) (M : zM), d + j = 10 → M.1 (f + 1) 0 ≤ 10 → M.1 (f + 1) 1 = nI np → zCi l w yX0_waysFrom cX0_waysFrom 5 (some .int) (4 + 2 * j) [.ref (w.2.2 f), .int (nI d), .int x] M (fun r M2 => zfk f d M M2 ∧ r = waysF (M.1 (f + 1)) (M.1 (f + 1 + 1)) (M.1 (f + 1 + 12)) np x j (M.1 (f + 20 + 2 * d))) := by
  obtain ⟨k1, k15, k17, k19⟩ := zkf0 f (zk_i hk (by decide)) hk
  have kf := zkf17 (f + 19) (zk_i k19 (by decide)) k19
  intro j
  induction j with
  | zero =>
    intro d M hd hn hnp
    have hpc : (nI d).toNatClampNeg = d := nI_clamp (by omega)
    have e20 : f + 19 + 1 + 2 * d = f + 20 + 2 * d := by omega
    refine zCi_of J zm_X0_waysFrom [some (.ref (w.2.2 f)), some (.int (nI d)), some (.int x), none, none] (Nat.le_of_ble_eq_true rfl) rfl (fun g hg F X => ?_)
    subst hg
    refine z_aload_n F dX0_waysFrom_0 rfl ?_
    refine zg_X0_forks F (by with_reducible assumption) fl_X0_28 dX0_waysFrom_1 (fun hk_1 => ?_)
    refine z_iload_n F dX0_waysFrom_4 rfl ?_
    refine z_aald17 F (by with_reducible assumption) (vp_in_nI (by omega) (by decide)) dX0_waysFrom_5 (fun hk_5 => ?_)
    rw [hpc, e20]
    rw [hpc, e20] at hk_5
    refine z_astore_n (lv' := [_, _, _, _, _]) F dX0_waysFrom_6 (by decide) rfl rfl ?_
    refine z_aload_n F dX0_waysFrom_7 rfl ?_
    refine zg_X5_ahead F (by with_reducible assumption) fl_X0_47 dX0_waysFrom_8 ?_
    refine z_bipush (v := 12) F dX0_waysFrom_11 (by decide) ?_
    refine z_ic_ge (tgt := 27) F dX0_waysFrom_13 (by decide) (fun h_13 => ?_) (fun h_13 => ?_)
    · refine z_aload_n F dX0_waysFrom_27 rfl ?_
      refine zg_X5_his F (by with_reducible assumption) fl_X0_89 dX0_waysFrom_28 ?_
      refine z_iload_n F dX0_waysFrom_31 rfl ?_
      refine z_ic_ne (tgt := 39) F dX0_waysFrom_32 (by decide) (fun h_32 => ?_) (fun h_32 => ?_)
      · refine z_iconst (v := 0) F dX0_waysFrom_39 (by decide) ?_
        refine z_iret F X dX0_waysFrom_40 ?_
        refine ⟨⟨rfl, fun _ _ => rfl⟩, ?_⟩
        first | (rw [waysF, if_pos h_32]; done) | (rw [waysF, if_neg h_32]; done)
      · refine z_iconst (v := 1) F dX0_waysFrom_35 (by decide) ?_
        refine z_goto (tgt := 40) F dX0_waysFrom_36 (by decide) ?_
        refine z_iret F X dX0_waysFrom_40 ?_
        refine ⟨⟨rfl, fun _ _ => rfl⟩, ?_⟩
        first | (rw [waysF, if_pos h_32]; done) | (rw [waysF, if_neg h_32]; done)
    · refine z_iload_n F dX0_waysFrom_16 rfl ?_
      refine z_iconst (v := 1) F dX0_waysFrom_17 (by decide) ?_
      refine z_iadd F dX0_waysFrom_18 ?_
      refine z_aload_n F dX0_waysFrom_19 rfl ?_
      refine zg_X0_forks F (by with_reducible assumption) fl_X0_28 dX0_waysFrom_20 (fun hk_20 => ?_)
      refine z_alen17 F (by with_reducible assumption) dX0_waysFrom_23 ?_
      refine z_ic_lt (tgt := 41) F dX0_waysFrom_24 (by decide) (fun h_24 => absurd h_24 (by rw [nI_1]; exact Int32.not_lt.mpr (nI_le (a := 11) (by omega) (by omega)))) (fun h_24 => ?_)
      refine z_aload_n F dX0_waysFrom_27 rfl ?_
      refine zg_X5_his F (by with_reducible assumption) fl_X0_89 dX0_waysFrom_28 ?_
      refine z_iload_n F dX0_waysFrom_31 rfl ?_
      refine z_ic_ne (tgt := 39) F dX0_waysFrom_32 (by decide) (fun h_32 => ?_) (fun h_32 => ?_)
      · refine z_iconst (v := 0) F dX0_waysFrom_39 (by decide) ?_
        refine z_iret F X dX0_waysFrom_40 ?_
        refine ⟨⟨rfl, fun _ _ => rfl⟩, ?_⟩
        first | (rw [waysF, if_pos h_32]; done) | (rw [waysF, if_neg h_32]; done)
      · refine z_iconst (v := 1) F dX0_waysFrom_35 (by decide) ?_
        refine z_goto (tgt := 40) F dX0_waysFrom_36 (by decide) ?_
        refine z_iret F X dX0_waysFrom_40 ?_
        refine ⟨⟨rfl, fun _ _ => rfl⟩, ?_⟩
        first | (rw [waysF, if_pos h_32]; done) | (rw [waysF, if_neg h_32]; done)
  | succ j ih =>
    intro d M hd hn hnp
    have hpc : (nI d).toNatClampNeg = d := nI_clamp (by omega)
    have hpc1 : (nI (d + 1)).toNatClampNeg = d + 1 := nI_clamp (by omega)
    have e20 : f + 19 + 1 + 2 * d = f + 20 + 2 * d := by omega
    have e21 : f + 19 + 1 + 2 * (d + 1) = f + 20 + 2 * (d + 1) := by omega
    have behind : ∀ (c : Int32) (M : zM), M.1 (f + 1) 0 ≤ 10 → M.1 (f + 1) 1 = nI np → zCi l w yX0_waysBehind cX0_waysBehind 4 (some .int) (5 + 2 * j) [.ref (w.2.2 f), .int (nI d), .int x, .int c] M (fun r M2 => zfk f d M M2 ∧ r = waysF (M.1 (f + 1)) (M.1 (f + 1 + 1)) (M.1 (f + 1 + 12)) np x j (passT (M.1 (f + 1)) (M.1 (f + 1 + 1)) (M.1 (f + 1 + 12)) np c (M.1 (f + 20 + 2 * d)))) := by
      intro c M hn hnp
      have kd : zk (f + 20 + 2 * d) = 5 := by rw [← e20]; exact kf d (by omega)
      have kd1 : zk (f + 20 + 2 * (d + 1)) = 5 := by rw [← e21]; exact kf (d + 1) (by omega)
      refine zCi_of J zm_X0_waysBehind [some (.ref (w.2.2 f)), some (.int (nI d)), some (.int x), some (.int c)] (Nat.le_of_ble_eq_true rfl) rfl (fun g hg F X => ?_)
      subst hg
      refine z_aload_n F dX0_waysBehind_0 rfl ?_
      refine zg_X0_forks F (by with_reducible assumption) fl_X0_28 dX0_waysBehind_1 (fun hk_1 => ?_)
      refine z_iload_n F dX0_waysBehind_4 rfl ?_
      refine z_iconst (v := 1) F dX0_waysBehind_5 (by decide) ?_
      refine z_iadd F dX0_waysBehind_6 ?_
      rw [nI_1]
      refine z_aald17 F (by with_reducible assumption) (vp_in_nI (by omega) (by decide)) dX0_waysBehind_7 (fun hk_7 => ?_)
      rw [hpc1, e21]
      refine z_aload_n F dX0_waysBehind_8 rfl ?_
      refine zg_X0_forks F (by with_reducible assumption) fl_X0_28 dX0_waysBehind_9 (fun hk_9 => ?_)
      refine z_iload_n F dX0_waysBehind_12 rfl ?_
      refine z_aald17 F (by with_reducible assumption) (vp_in_nI (by omega) (by decide)) dX0_waysBehind_13 (fun hk_13 => ?_)
      rw [hpc, e20]
      refine z_callVv F (d_X5_setFrom J kd1 kd (by omega)) zm_X5_setFrom zv_X5_setFrom ml_X0_40 kd1 (by decide) rfl rfl rfl (Nat.le_of_ble_eq_true rfl) dX0_waysBehind_14 (by omega) (fun M_14 h_14 => ?_)
      replace h_14 := Eq.symm h_14
      subst h_14
      refine z_aload_n F dX0_waysBehind_17 rfl ?_
      refine zg_X0_road F (by with_reducible assumption) fl_X0_12 dX0_waysBehind_18 (fun hk_18 => ?_)
      refine z_aload_n F dX0_waysBehind_21 rfl ?_
      refine zg_X0_forks F (by with_reducible assumption) fl_X0_28 dX0_waysBehind_22 (fun hk_22 => ?_)
      refine z_iload_n F dX0_waysBehind_25 rfl ?_
      refine z_iconst (v := 1) F dX0_waysBehind_26 (by decide) ?_
      refine z_iadd F dX0_waysBehind_27 ?_
      rw [nI_1]
      refine z_aald17 F (by with_reducible assumption) (vp_in_nI (by omega) (by decide)) dX0_waysBehind_28 (fun hk_28 => ?_)
      rw [hpc1, e21]
      refine z_iload_n F dX0_waysBehind_29 rfl ?_
      refine z_callVi F (c_X1_pass J k1 kd1 (by rw [za_off _ (by omega)]; exact hn) (np := np) (by rw [za_off _ (by omega)]; exact hnp) hnp9) zm_X1_pass zv_X1_pass ml_X0_50 (by with_reducible assumption) (by decide) rfl rfl rfl (Nat.le_of_ble_eq_true rfl) dX0_waysBehind_30 (by omega) (fun r_30 M_30 h_30 => ?_)
      obtain ⟨e_30, rfl⟩ := h_30
      replace e_30 := Eq.symm e_30
      subst e_30
      refine z_pop F dX0_waysBehind_33 rfl ?_
      refine z_aload_n F dX0_waysBehind_34 rfl ?_
      refine z_iload_n F dX0_waysBehind_35 rfl ?_
      refine z_iconst (v := 1) F dX0_waysBehind_36 (by decide) ?_
      refine z_iadd F dX0_waysBehind_37 ?_
      rw [nI_1]
      refine z_iload_n F dX0_waysBehind_38 rfl ?_
      refine z_callVi F (ih (d + 1) _ (by omega) (by rw [zt_off (by omega) (by omega), za_off _ (by omega)]; exact hn) (by rw [zt_off (by omega) (by omega), za_off _ (by omega)]; exact hnp)) zm_X0_waysFrom zv_X0_waysFrom ml_X0_111 (by with_reducible assumption) (by decide) rfl rfl rfl (Nat.le_of_ble_eq_true rfl) dX0_waysBehind_39 (by omega) (fun r_39 M_39 h_39 => ?_)
      skip
      refine z_iret F X dX0_waysBehind_42 ?_
      obtain ⟨⟨a1, a2⟩, a3⟩ := h_39
      refine ⟨⟨by rw [a1]; rfl, fun b q => ?_⟩, ?_⟩
      · rw [a2 b (by omega), zt_off (by omega) (by omega), za_off _ (by omega)]
      · rw [a3, zt_t, passF_fst, zt_off (by omega) (by omega), za_off _ (by omega), zt_off (by omega) (by omega), za_off _ (by omega), zt_off (by omega) (by omega), za_off _ (by omega), za_at]
    refine zCi_of J zm_X0_waysFrom [some (.ref (w.2.2 f)), some (.int (nI d)), some (.int x), none, none] (Nat.le_of_ble_eq_true rfl) rfl (fun g hg F X => ?_)
    subst hg
    refine z_aload_n F dX0_waysFrom_0 rfl ?_
    refine zg_X0_forks F (by with_reducible assumption) fl_X0_28 dX0_waysFrom_1 (fun hk_1 => ?_)
    refine z_iload_n F dX0_waysFrom_4 rfl ?_
    refine z_aald17 F (by with_reducible assumption) (vp_in_nI (by omega) (by decide)) dX0_waysFrom_5 (fun hk_5 => ?_)
    rw [hpc, e20]
    rw [hpc, e20] at hk_5
    refine z_astore_n (lv' := [_, _, _, _, _]) F dX0_waysFrom_6 (by decide) rfl rfl ?_
    refine z_aload_n F dX0_waysFrom_7 rfl ?_
    refine zg_X5_ahead F (by with_reducible assumption) fl_X0_47 dX0_waysFrom_8 ?_
    try simp only [q0, q3]
    refine z_bipush (v := 12) F dX0_waysFrom_11 (by decide) ?_
    refine z_ic_ge (tgt := 27) F dX0_waysFrom_13 (by decide) (fun h_13 => ?_) (fun h_13 => ?_)
    · try simp only [q0, q3] at h_13
      refine z_aload_n F dX0_waysFrom_27 rfl ?_
      refine zg_X5_his F (by with_reducible assumption) fl_X0_89 dX0_waysFrom_28 ?_
      try simp only [q0, q3]
      refine z_iload_n F dX0_waysFrom_31 rfl ?_
      refine z_ic_ne (tgt := 39) F dX0_waysFrom_32 (by decide) (fun h_32 => ?_) (fun h_32 => ?_)
      · try simp only [q0, q3] at h_32
        refine z_iconst (v := 0) F dX0_waysFrom_39 (by decide) ?_
        refine z_iret F X dX0_waysFrom_40 ?_
        refine ⟨⟨rfl, fun _ _ => rfl⟩, ?_⟩
        first | (rw [waysF, if_pos h_13, if_pos h_32]; done) | (rw [waysF, if_pos h_13, if_neg h_32]; done)
      · try simp only [q0, q3] at h_32
        refine z_iconst (v := 1) F dX0_waysFrom_35 (by decide) ?_
        refine z_goto (tgt := 40) F dX0_waysFrom_36 (by decide) ?_
        refine z_iret F X dX0_waysFrom_40 ?_
        refine ⟨⟨rfl, fun _ _ => rfl⟩, ?_⟩
        first | (rw [waysF, if_pos h_13, if_pos h_32]; done) | (rw [waysF, if_pos h_13, if_neg h_32]; done)
    · try simp only [q0, q3] at h_13
      refine z_iload_n F dX0_waysFrom_16 rfl ?_
      refine z_iconst (v := 1) F dX0_waysFrom_17 (by decide) ?_
      refine z_iadd F dX0_waysFrom_18 ?_
      refine z_aload_n F dX0_waysFrom_19 rfl ?_
      refine zg_X0_forks F (by with_reducible assumption) fl_X0_28 dX0_waysFrom_20 (fun hk_20 => ?_)
      refine z_alen17 F (by with_reducible assumption) dX0_waysFrom_23 ?_
      refine z_ic_lt (tgt := 41) F dX0_waysFrom_24 (by decide) (fun h_24 => ?_) (fun h_24 => absurd h_24 (by rw [nI_1]; exact Int32.not_le.mpr (nI_lt (b := 11) (by omega) (by decide))))
      refine z_aload_n F dX0_waysFrom_41 rfl ?_
      refine z_iload_n F dX0_waysFrom_42 rfl ?_
      refine z_iload_n F dX0_waysFrom_43 rfl ?_
      refine z_iconst (v := 1) F dX0_waysFrom_44 (by decide) ?_
      refine z_callVi F (behind 1 M hn hnp) zm_X0_waysBehind zv_X0_waysBehind ml_X0_115 (by with_reducible assumption) (by decide) rfl rfl rfl (Nat.le_of_ble_eq_true rfl) dX0_waysFrom_45 (by omega) (fun r_45 M_45 h_45 => ?_)
      obtain ⟨⟨a1, a2⟩, rfl⟩ := h_45
      have q0 := a2 (f + 1) (by omega)
      have q1 := a2 (f + 1 + 1) (by omega)
      have q2 := a2 (f + 1 + 12) (by omega)
      have q3 := a2 (f + 20 + 2 * d) (by omega)
      refine z_istore (lv' := [_, _, _, _, _]) F dX0_waysFrom_48 (by decide) rfl rfl ?_
      refine z_aload_n F dX0_waysFrom_50 rfl ?_
      refine zg_X0_road F (by with_reducible assumption) fl_X0_12 dX0_waysFrom_51 (fun hk_51 => ?_)
      refine z_aload_n F dX0_waysFrom_54 rfl ?_
      refine zg_X5_ahead F (by with_reducible assumption) fl_X0_47 dX0_waysFrom_55 ?_
      try simp only [q0, q3]
      refine z_callVi F (c_X1_isPeopled J (by with_reducible assumption) (by rw [q0]; exact hnp) hnp9) zm_X1_isPeopled zv_X1_isPeopled ml_X0_119 (by with_reducible assumption) (by decide) rfl rfl rfl (Nat.le_of_ble_eq_true rfl) dX0_waysFrom_58 (by omega) (fun r_58 M_58 h_58 => ?_)
      obtain ⟨e_58, rfl⟩ := h_58
      replace e_58 := Eq.symm e_58
      subst e_58
      refine z_if_eq (tgt := 77) F dX0_waysFrom_61 (by decide) (fun h_61 => ?_) (fun h_61 => ?_)
      · try simp only [q0, q3] at h_61
        refine z_iconst (v := 2) F dX0_waysFrom_77 (by decide) ?_
        refine z_iload F dX0_waysFrom_78 rfl ?_
        refine z_imul F dX0_waysFrom_80 ?_
        refine z_iret F X dX0_waysFrom_81 ?_
        rw [q2] at h_61
        refine ⟨⟨a1, a2⟩, ?_⟩
        rw [waysF, if_neg (nle h_13), if_pos h_61]
      · try simp only [q0, q3] at h_61
        refine z_iload F dX0_waysFrom_64 rfl ?_
        refine z_aload_n F dX0_waysFrom_66 rfl ?_
        refine z_iload_n F dX0_waysFrom_67 rfl ?_
        refine z_iload_n F dX0_waysFrom_68 rfl ?_
        refine z_iconst (v := 2) F dX0_waysFrom_69 (by decide) ?_
        refine z_callVi F (behind 2 _ (by rw [q0]; exact hn) (by rw [q0]; exact hnp)) zm_X0_waysBehind zv_X0_waysBehind ml_X0_115 (by with_reducible assumption) (by decide) rfl rfl rfl (Nat.le_of_ble_eq_true rfl) dX0_waysFrom_70 (by omega) (fun r_70 M_70 h_70 => ?_)
        obtain ⟨⟨b1, b2⟩, rfl⟩ := h_70
        refine z_iadd F dX0_waysFrom_73 ?_
        refine z_goto (tgt := 81) F dX0_waysFrom_74 (by decide) ?_
        refine z_iret F X dX0_waysFrom_81 ?_
        rw [q2] at h_61
        refine ⟨⟨b1.trans a1, fun b q => (b2 b q).trans (a2 b q)⟩, ?_⟩
        rw [waysF, if_neg (nle h_13), if_neg h_61, q0, q1, q2, q3]
theorem c_X0_waysTo {l : Launch} {w : zE} (J : zJ w) {M : zM} {f n np a : Nat} {x : Int32} (hk : zk f = 0) (hn : zk n = 6) (hf : f = 87) (hn1 : n = 1) (ok : nowOK M n np a) : zCi l w yX0_waysTo cX0_waysTo 3 (some .int) 25 [.ref (w.2.2 f), .int x, .ref (w.2.2 n)] M (fun r M2 => zfr M M2 ∧ r = waysF (M.1 (n + 1)) (M.1 (n + 1 + 1)) (M.1 (n + 1 + 12)) np x 10 (M.1 (n + 15))) := by
  obtain ⟨k1, k15, k17, k19⟩ := zkf0 f (zk_i hk (by decide)) hk
  have kf : zk (f + 20) = 5 := zkf17 (f + 19) (zk_i k19 (by decide)) k19 0 (by decide)
  have w0 : ∀ b, b ≠ f + 1 → b ≠ f + 1 + 1 → b ≠ f + 1 + 12 → (zrd M (f + 1) (M.1 (n + 1)) (M.1 (n + 1 + 1)) (M.1 (n + 1 + 12))).1 b = M.1 b := fun b h1 h2 h3 => by unfold zrd; rw [za_off _ h1, za_off _ h3, za_off _ h2]
  have w1 : (zrd M (f + 1) (M.1 (n + 1)) (M.1 (n + 1 + 1)) (M.1 (n + 1 + 12))).1 (f + 1) = M.1 (n + 1) := by unfold zrd; rw [za_at]
  have w2 : (zrd M (f + 1) (M.1 (n + 1)) (M.1 (n + 1 + 1)) (M.1 (n + 1 + 12))).1 (f + 1 + 1) = M.1 (n + 1 + 1) := by unfold zrd; rw [za_off _ (by omega), za_off _ (by omega), za_at]
  have w3 : (zrd M (f + 1) (M.1 (n + 1)) (M.1 (n + 1 + 1)) (M.1 (n + 1 + 12))).1 (f + 1 + 12) = M.1 (n + 1 + 12) := by unfold zrd; rw [za_off _ (by omega), za_at]
  have w4 : zfr M (zrd M (f + 1) (M.1 (n + 1)) (M.1 (n + 1 + 1)) (M.1 (n + 1 + 12))) := (((zfr.rf M).a (by omega)).a (by omega)).a (by omega)
  refine zCi_of J zm_X0_waysTo [some (.ref (w.2.2 f)), some (.int x), some (.ref (w.2.2 n))] (Nat.le_of_ble_eq_true rfl) rfl (fun g hg F X => ?_)
  subst hg
  refine z_aload_n F dX0_waysTo_0 rfl ?_
  refine zg_X0_road F (by with_reducible assumption) fl_X0_12 dX0_waysTo_1 (fun hk_1 => ?_)
  refine z_aload_n F dX0_waysTo_4 rfl ?_
  refine zg_X6_road F (by with_reducible assumption) fl_X0_32 dX0_waysTo_5 (fun hk_5 => ?_)
  refine z_callVv F (d_X1_setFrom J (by with_reducible assumption) (by with_reducible assumption) (by omega)) zm_X1_setFrom zv_X1_setFrom ml_X0_35 (by with_reducible assumption) (by decide) rfl rfl rfl (Nat.le_of_ble_eq_true rfl) dX0_waysTo_8 (by omega) (fun M_8 h_8 => ?_)
  replace h_8 := Eq.symm h_8
  subst h_8
  refine z_aload_n F dX0_waysTo_11 rfl ?_
  refine zg_X0_forks F (by with_reducible assumption) fl_X0_28 dX0_waysTo_12 (fun hk_12 => ?_)
  refine z_iconst (v := 0) F dX0_waysTo_15 (by decide) ?_
  refine z_aald17 F (by with_reducible assumption) (vp_in_nI (n := 0) (by decide) (by decide)) dX0_waysTo_16 (fun hk_16 => ?_)
  show ZW w g 3 17 _ (.ref (w.2.2 (f + 20)) :: _) _
  generalize zrd M (f + 1) (M.1 (n + 1)) (M.1 (n + 1 + 1)) (M.1 (n + 1 + 12)) = M1 at w0 w1 w2 w3 w4 ⊢
  refine z_aload_n F dX0_waysTo_17 rfl ?_
  refine zg_X6_trip F (by with_reducible assumption) fl_X0_39 dX0_waysTo_18 (fun hk_18 => ?_)
  refine z_callVv F (d_X5_setFrom J kf (by with_reducible assumption) (by omega)) zm_X5_setFrom zv_X5_setFrom ml_X0_40 kf (by decide) rfl rfl rfl (Nat.le_of_ble_eq_true rfl) dX0_waysTo_21 (by omega) (fun M_21 h_21 => ?_)
  replace h_21 := Eq.symm h_21
  subst h_21
  refine z_aload_n F dX0_waysTo_24 rfl ?_
  refine z_iconst (v := 0) F dX0_waysTo_25 (by decide) ?_
  refine z_iload_n F dX0_waysTo_26 rfl ?_
  refine z_callVi F (c_ways J hk (np := np) (by have := ok.2.2.1; omega) 10 0 _ (by omega) (by rw [za_off _ (by omega), w1]; exact ok.1) (by rw [za_off _ (by omega), w1]; exact ok.2.1)) zm_X0_waysFrom zv_X0_waysFrom ml_X0_111 (by with_reducible assumption) (by decide) rfl rfl rfl (Nat.le_of_ble_eq_true rfl) dX0_waysTo_27 (by omega) (fun r_27 M_27 h_27 => ?_)
  obtain ⟨⟨a1, a2⟩, rfl⟩ := h_27
  refine z_iret F X dX0_waysTo_30 ?_
  refine ⟨(w4.a (b := f + 20) (by omega)).tr ⟨a1, fun b q => a2 b (by omega)⟩, ?_⟩
  rw [za_off _ (by omega), za_off _ (by omega), za_off _ (by omega), w1, w2, w3]
  show waysF _ _ _ _ _ _ ((za M1 (f + 20) (M1.1 (n + 15))).1 (f + 20)) = _
  rw [za_at, w0 _ (by omega) (by omega) (by omega)]
