/-! the sister's road back, the reference's -/
def cA (pe : zF1) (i : Nat) : Nat → Nat
  | 0 => 0
  | k + 1 => cA pe i k + if pe (2 * k) = nI i then 1 else 0
def cS (pe : zF1) (k : Nat) : Nat → Nat
  | 0 => 0
  | i + 1 => cS pe k i + cA pe i k
def cE (x : Int32) : Nat → Nat
  | 0 => 0
  | i + 1 => cE x i + if x = nI i then 1 else 0
theorem cE_1 (x : Int32) : ∀ i, i ≤ 12 → cE x i ≤ 1 ∧ (cE x i ≠ 0 → ∃ m, m < i ∧ x = nI m) := by
  intro i
  induction i with
  | zero => intro _; exact ⟨Nat.zero_le _, fun h => absurd rfl h⟩
  | succ i ih =>
    intro h
    obtain ⟨h1, h2⟩ := ih (by omega)
    rw [cE]
    by_cases z : x = nI i
    · rw [if_pos z]
      by_cases y : cE x i = 0
      · exact ⟨by omega, fun _ => ⟨i, by omega, z⟩⟩
      · obtain ⟨m, m1, m2⟩ := h2 y
        have := (nI_eq (by omega) (by omega)).mp (m2.symm.trans z)
        omega
    · rw [if_neg z]
      exact ⟨by omega, fun y => by obtain ⟨m, m1, m2⟩ := h2 (by omega); exact ⟨m, by omega, m2⟩⟩
theorem cS_s (pe : zF1) (k : Nat) : ∀ i, cS pe (k + 1) i = cS pe k i + cE (pe (2 * k)) i := by
  intro i
  induction i with
  | zero => rfl
  | succ i ih => rw [cS, ih, cS, cE, cA]; omega
theorem cS_le (pe : zF1) {i : Nat} (h : i ≤ 12) : ∀ k, cS pe k i ≤ k := by
  intro k
  induction k with
  | zero =>
    have : ∀ i, cS pe 0 i = 0 := fun i => by
      induction i with
      | zero => rfl
      | succ i ih => rw [cS, ih, cA]
    rw [this]
    exact Nat.zero_le _
  | succ k ih => rw [cS_s]; have := (cE_1 (pe (2 * k)) i h).1; omega
theorem add_m1 (x : Int32) : x + (-1) = x - 1 := (Int32.sub_eq_add_neg x 1).symm
abbrev mtsOK (np : Nat) (f : zF1) (n : Nat) : Prop := ∀ k, k < n → ∃ p, p < np ∧ f k = nI p
def wOK (nt : Nat) (th : zF1) : Prop := ∀ j, j < nt → ∃ v, v ≤ 99 ∧ th (4 * j + 1) = nI v
def mOK (np : Nat) (pe : zF1) : Prop := ∀ p, p < np → ∃ v, v ≤ 20 ∧ pe (2 * p + 1) = nI v
theorem sh0 (x : Int32) : ¬ ((0 : Int32) >>> (x &&& 31) &&& 1) = 1 := fun h => by
  have := coin_0 x
  rw [coinF, h] at this
  exact absurd this (by decide)
theorem c_X8_sisters {l : Launch} {w : zE} (J : zJ w) {M : zM} {o nt np t0 : Nat} {kk : Int32} (hk : zk o = 8) (ho : o = 138) (h10 : nt ≤ 10) (hnp : M.1 o 1 = nI np) (h8 : np ≤ 8) (tv : tv9 nt (M.1 (o + 3))) (hW : wOK nt (M.1 (o + 1))) (hG : mOK np (M.1 (o + 2))) (ht : t0 < nt) : zCi l w yX8_sisters cX8_sisters 13 (some .int) 1 [.ref (w.2.2 o), .int (nI t0), .int kk] M (fun r M2 => (∃ f, M2 = za M (o + 9) f) ∧ r = if kk = 0 then wrt (M.1 (o + 1)) (nI t0) else 0) := by
  obtain ⟨hz1, hz2, hz3, hz4, hz5, hz6, hz7, hz8, hz9, hz10, hz11, hz12, hz13, hz14, hz15⟩ := zn8 ho
  obtain ⟨tv0, tv5, _⟩ := tv
  have e0 : ∀ f, (za M (o + 9) f).1 o 1 = nI np := fun f => by rw [za_off _ (by omega)]; exact hnp
  have e1 : ∀ f, (za M (o + 9) f).1 (o + 1) = M.1 (o + 1) := fun f => za_off _ (by omega)
  have e2 : ∀ f, (za M (o + 9) f).1 (o + 2) = M.1 (o + 2) := fun f => za_off _ (by omega)
  have e3 : ∀ f, (za M (o + 9) f).1 (o + 3) = M.1 (o + 3) := fun f => za_off _ (by omega)
  have e9 : ∀ f, (za M (o + 9) f).1 (o + 9) = f := fun f => za_at _ _ _
  obtain ⟨u0, hu0, ew0⟩ := hW t0 ht
  have wt : wrt (M.1 (o + 1)) (nI t0) = nI u0 := by rw [wrt_n _ (by omega), ew0]
  refine zCi_of J zm_X8_sisters [some (.ref (w.2.2 o)), some (.int (nI t0)), some (.int kk), none, none, none, none, none, none, none, none, none, none] (Nat.le_of_ble_eq_true rfl) rfl (fun g hg F X => ?_)
  subst hg
  have fin : ∀ (n : Nat) (f : zF1) (best : Int32) (lv6 lv7 lv8 lv9 lv10 lv11 lv12 : Option Value), best = 0 → ZW w g 13 240 [some (.ref (w.2.2 o)), some (.int (nI t0)), some (.int kk), some (.int (nI n)), some (.int (wrt (M.1 (o + 1)) (nI t0))), some (.int best), lv6, lv7, lv8, lv9, lv10, lv11, lv12] [] (za M (o + 9) f) := by
    intro n f best lv6 lv7 lv8 lv9 lv10 lv11 lv12 hb
    subst hb
    refine z_iload_n F dX8_sisters_240 rfl ?_
    refine z_if_ne (tgt := 249) F dX8_sisters_241 (by decide) (fun h_241 => ?_) (fun h_241 => ?_)
    · refine z_iload F dX8_sisters_249 rfl ?_
      refine z_iret F X dX8_sisters_251 ?_
      exact ⟨⟨f, rfl⟩, (if_neg h_241).symm⟩
    · refine z_iload F dX8_sisters_244 rfl ?_
      refine z_goto (tgt := 251) F dX8_sisters_246 (by decide) ?_
      refine z_iret F X dX8_sisters_251 ?_
      exact ⟨⟨f, rfl⟩, (if_pos h_241).symm⟩
  have rows : ∀ (n : Nat) (f : zF1), n ≤ 8 → mtsOK np f n → ∀ (j r : Nat) (most best : Int32) (lv7 lv8 lv9 lv10 lv11 lv12 : Option Value), r + j = 2 ^ n → (r = 0 ∧ most = -1 ∧ best = 0 ∨ 0 < r ∧ most = wrt (M.1 (o + 1)) (nI t0) ∧ best = 0) → ZW w g 13 70 [some (.ref (w.2.2 o)), some (.int (nI t0)), some (.int kk), some (.int (nI n)), some (.int most), some (.int best), some (.int (nI r)), lv7, lv8, lv9, lv10, lv11, lv12] [] (za M (o + 9) f) := by
    intro n f hn8 hf j
    have p2 : 2 ^ n ≤ 256 := Nat.le_trans (Nat.pow_le_pow_right (by decide) hn8) (by decide)
    have p0 : 0 < 2 ^ n := Nat.two_pow_pos n
    have sh := pw_sh n (by omega)
    induction j with
    | zero =>
      intro r most best lv7 lv8 lv9 lv10 lv11 lv12 hr hm
      obtain rfl : r = 2 ^ n := by omega
      rcases hm with ⟨h0, _⟩ | ⟨_, rfl, hb⟩
      · omega
      refine z_iload F dX8_sisters_70 rfl ?_
      refine z_iconst (v := 1) F dX8_sisters_72 (by decide) ?_
      refine z_iload_n F dX8_sisters_73 rfl ?_
      refine z_ishl F dX8_sisters_74 ?_
      rw [sh]
      refine z_ic_ge (tgt := 240) F dX8_sisters_75 (by decide) (fun h_75 => ?_) (fun h_75 => absurd h_75 (nlt (Int32.le_refl _)))
      exact fin n f best _ _ _ _ _ _ _ hb
    | succ j ih =>
      intro r most best lv7 lv8 lv9 lv10 lv11 lv12 hr hm
      have K0 : ∀ (own set k : Int32) (lv11 lv12 : Option Value), 0 < r → ZW w g 13 206 [some (.ref (w.2.2 o)), some (.int (nI t0)), some (.int kk), some (.int (nI n)), some (.int most), some (.int best), some (.int (nI r)), some (.int own), some (.int set), some (.int 0), some (.int k), lv11, lv12] [] (za M (o + 9) f) := by
        intro own set k lv11 lv12 hr0
        refine z_iload F dX8_sisters_206 rfl ?_
        refine z_if_eq (tgt := 234) F dX8_sisters_208 (by decide) (fun h_208 => ?_) (fun h_208 => absurd h_208 (by decide))
        refine z_iincc (c := 1) (lv' := [_, _, _, _, _, _, _, _, _, _, _, _, _]) F dX8_sisters_234 rfl (by decide) (by decide) rfl rfl ?_
        refine z_goto (tgt := 70) F dX8_sisters_237 (by decide) ?_
        rw [nI_1]
        exact ih (r + 1) _ _ _ _ _ _ _ _ (by omega) (Or.inr (hm.elim (fun z => absurd z.1 (by omega)) (fun z => ⟨by omega, z.2⟩)))
      have K1 : ∀ (jo u : Nat) (set k : Int32) (lv11 lv12 : Option Value), jo < nt → M.1 (o + 1) (4 * jo + 1) = nI u → u ≤ u0 → (r = 0 → jo = t0 ∧ set = 0) → ZW w g 13 206 [some (.ref (w.2.2 o)), some (.int (nI t0)), some (.int kk), some (.int (nI n)), some (.int most), some (.int best), some (.int (nI r)), some (.int (nI jo)), some (.int set), some (.int 1), some (.int k), lv11, lv12] [] (za M (o + 9) f) := by
        intro jo u set k lv11 lv12 hjo hu huu h0
        have wo : wrt (M.1 (o + 1)) (nI jo) = nI u := by rw [wrt_n _ (by omega), hu]
        rcases hm with ⟨r0, m1, b0⟩ | ⟨r0, m1, b0⟩
        · obtain ⟨rfl, rfl⟩ := h0 r0
          subst m1
          refine z_iload F dX8_sisters_206 rfl ?_
          refine z_if_eq (tgt := 234) F dX8_sisters_208 (by decide) (fun h_208 => absurd h_208 (by decide)) (fun h_208 => ?_)
          refine z_aload_n F dX8_sisters_211 rfl ?_
          refine z_iload F dX8_sisters_212 rfl ?_
          refine z_callVi F (c_X8_worth J hk ho (nt := nt) (Or.inr ⟨jo, hjo, rfl⟩) h10) zm_X8_worth zv_X8_worth ml_X8_173 (by with_reducible assumption) (by decide) rfl rfl rfl (Nat.le_of_ble_eq_true rfl) dX8_sisters_214 (by omega) (fun r_214 M_214 h_214 => ?_)
          obtain ⟨e_214, f_214⟩ := h_214
          rw [e1] at f_214
          subst f_214
          replace e_214 := Eq.symm e_214
          subst e_214
          refine z_iload F dX8_sisters_217 rfl ?_
          refine z_ic_le (tgt := 234) F dX8_sisters_219 (by decide) (fun h_219 => absurd h_219 (by rw [wt]; exact fun z => nI_pos (n := u0) (by omega) (Int32.lt_of_le_of_lt z (by decide)))) (fun h_219 => ?_)
          refine z_aload_n F dX8_sisters_222 rfl ?_
          refine z_iload F dX8_sisters_223 rfl ?_
          refine z_callVi F (c_X8_worth J hk ho (nt := nt) (Or.inr ⟨jo, hjo, rfl⟩) h10) zm_X8_worth zv_X8_worth ml_X8_173 (by with_reducible assumption) (by decide) rfl rfl rfl (Nat.le_of_ble_eq_true rfl) dX8_sisters_225 (by omega) (fun r_225 M_225 h_225 => ?_)
          obtain ⟨e_225, f_225⟩ := h_225
          rw [e1] at f_225
          subst f_225
          replace e_225 := Eq.symm e_225
          subst e_225
          refine z_istore (lv' := [_, _, _, _, _, _, _, _, _, _, _, _, _]) F dX8_sisters_228 (by decide) rfl rfl ?_
          refine z_iload F dX8_sisters_230 rfl ?_
          refine z_istore (lv' := [_, _, _, _, _, _, _, _, _, _, _, _, _]) F dX8_sisters_232 (by decide) rfl rfl ?_
          refine z_iincc (c := 1) (lv' := [_, _, _, _, _, _, _, _, _, _, _, _, _]) F dX8_sisters_234 rfl (by decide) (by decide) rfl rfl ?_
          refine z_goto (tgt := 70) F dX8_sisters_237 (by decide) ?_
          rw [nI_1]
          exact ih (r + 1) _ _ _ _ _ _ _ _ (by omega) (Or.inr ⟨by omega, rfl, rfl⟩)
        · subst m1
          refine z_iload F dX8_sisters_206 rfl ?_
          refine z_if_eq (tgt := 234) F dX8_sisters_208 (by decide) (fun h_208 => absurd h_208 (by decide)) (fun h_208 => ?_)
          refine z_aload_n F dX8_sisters_211 rfl ?_
          refine z_iload F dX8_sisters_212 rfl ?_
          refine z_callVi F (c_X8_worth J hk ho (nt := nt) (Or.inr ⟨jo, hjo, rfl⟩) h10) zm_X8_worth zv_X8_worth ml_X8_173 (by with_reducible assumption) (by decide) rfl rfl rfl (Nat.le_of_ble_eq_true rfl) dX8_sisters_214 (by omega) (fun r_214 M_214 h_214 => ?_)
          obtain ⟨e_214, f_214⟩ := h_214
          rw [e1] at f_214
          subst f_214
          replace e_214 := Eq.symm e_214
          subst e_214
          refine z_iload F dX8_sisters_217 rfl ?_
          refine z_ic_le (tgt := 234) F dX8_sisters_219 (by decide) (fun h_219 => ?_) (fun h_219 => absurd h_219 (by rw [wt, wo]; exact nI_nlt huu (by omega)))
          refine z_iincc (c := 1) (lv' := [_, _, _, _, _, _, _, _, _, _, _, _, _]) F dX8_sisters_234 rfl (by decide) (by decide) rfl rfl ?_
          refine z_goto (tgt := 70) F dX8_sisters_237 (by decide) ?_
          rw [nI_1]
          exact ih (r + 1) _ _ _ _ _ _ _ _ (by omega) (Or.inr ⟨by omega, rfl, b0⟩)
      have ex0 : ∀ (own set k : Int32) (lv11 lv12 : Option Value), 0 < r → ZW w g 13 90 [some (.ref (w.2.2 o)), some (.int (nI t0)), some (.int kk), some (.int (nI n)), some (.int most), some (.int best), some (.int (nI r)), some (.int own), some (.int set), some (.int 0), some (.int k), lv11, lv12] [] (za M (o + 9) f) := by
        intro own set k lv11 lv12 hr0
        refine z_iload F dX8_sisters_90 rfl ?_
        refine z_iload_n F dX8_sisters_92 rfl ?_
        refine z_ic_ge (tgt := 206) F dX8_sisters_93 (by decide) (fun h_93 => ?_) (fun h_93 => ?_)
        · exact K0 own set k _ _ hr0
        · refine z_iload F dX8_sisters_96 rfl ?_
          refine z_if_eq (tgt := 206) F dX8_sisters_98 (by decide) (fun h_98 => ?_) (fun h_98 => absurd h_98 (by decide))
          exact K0 own set k _ _ hr0
      have inn : ∀ (i k jo u : Nat) (set : Int32) (lv11 lv12 : Option Value), k + i = n → jo < nt → M.1 (o + 1) (4 * jo + 1) = nI u → u ≤ u0 → (r = 0 → jo = t0 ∧ set = 0) → ZW w g 13 90 [some (.ref (w.2.2 o)), some (.int (nI t0)), some (.int kk), some (.int (nI n)), some (.int most), some (.int best), some (.int (nI r)), some (.int (nI jo)), some (.int set), some (.int 1), some (.int (nI k)), lv11, lv12] [] (za M (o + 9) f) := by
        intro i
        induction i with
        | zero =>
          intro k jo u set lv11 lv12 hki hjo hu huu h0
          obtain rfl : k = n := by omega
          refine z_iload F dX8_sisters_90 rfl ?_
          refine z_iload_n F dX8_sisters_92 rfl ?_
          refine z_ic_ge (tgt := 206) F dX8_sisters_93 (by decide) (fun h_93 => ?_) (fun h_93 => absurd h_93 (nlt (Int32.le_refl _)))
          exact K1 jo u set _ _ _ hjo hu huu h0
        | succ i ihi =>
          intro k jo u set lv11 lv12 hki hjo hu huu h0
          obtain ⟨p, hp, efk⟩ := hf k (by omega)
          obtain ⟨mg, hmg, emg⟩ := hG p hp
          have vo := tv5 p (by omega)
          have wo : wrt (M.1 (o + 1)) (nI jo) = nI u := by rw [wrt_n _ (by omega), hu]
          refine z_iload F dX8_sisters_90 rfl ?_
          refine z_iload_n F dX8_sisters_92 rfl ?_
          refine z_ic_ge (tgt := 206) F dX8_sisters_93 (by decide) (fun h_93 => absurd h_93 (nle (nI_lt (by omega) (by omega)))) (fun h_93 => ?_)
          refine z_iload F dX8_sisters_96 rfl ?_
          refine z_if_eq (tgt := 206) F dX8_sisters_98 (by decide) (fun h_98 => absurd h_98 (by decide)) (fun h_98 => ?_)
          refine z_aload_n F dX8_sisters_101 rfl ?_
          refine zg_X8_meets F (by with_reducible assumption) fl_X8_34 dX8_sisters_102 (fun hk_102 => ?_)
          refine z_iload F dX8_sisters_105 rfl ?_
          refine z_iald10n (q := k) F (by with_reducible assumption) (by first | with_reducible rfl | (simp only [n4, n2, n3, n5, n14, n16, na1, na2, na3, nI_add, nI_1, nI_pred]; done) | (simp only [n4, n2, n3, n5, n14, n16, na1, na2, na3, nI_add, nI_1, nI_pred, Nat.add_assoc, Nat.add_comm, Nat.add_left_comm]; done)) (by rw [hz9]; omega) dX8_sisters_107 ?_
          try simp only [e9, e3, e2, efk, emg]
          refine z_istore (lv' := [_, _, _, _, _, _, _, _, _, _, _, _, _]) F dX8_sisters_108 (by decide) rfl rfl ?_
          refine z_iload F dX8_sisters_110 rfl ?_
          refine z_iload_n F dX8_sisters_112 rfl ?_
          refine z_iconst (v := 1) F dX8_sisters_113 (by decide) ?_
          refine z_isub F dX8_sisters_114 ?_
          refine z_iload F dX8_sisters_115 rfl ?_
          refine z_isub F dX8_sisters_117 ?_
          refine z_ishr F dX8_sisters_118 ?_
          refine z_iconst (v := 1) F dX8_sisters_119 (by decide) ?_
          refine z_iand F dX8_sisters_120 ?_
          refine z_iconst (v := 1) F dX8_sisters_121 (by decide) ?_
          refine z_ic_ne (tgt := 200) F dX8_sisters_122 (by decide) (fun h_122 => ?_) (fun h_122 => ?_)
          · try simp only [e9, e3, e2, efk, emg] at h_122
            refine z_iincc (c := 1) (lv' := [_, _, _, _, _, _, _, _, _, _, _, _, _]) F dX8_sisters_200 rfl (by decide) (by decide) rfl rfl ?_
            refine z_goto (tgt := 90) F dX8_sisters_203 (by decide) ?_
            rw [nI_1]
            exact ihi (k + 1) jo u set _ _ (by omega) hjo hu huu h0
          · try simp only [e9, e3, e2, efk, emg] at h_122
            have hr0 : 0 < r := Nat.pos_of_ne_zero (fun z => by subst z; exact sh0 _ h_122)
            refine z_aload_n F dX8_sisters_125 rfl ?_
            refine zg_X8_now F (by with_reducible assumption) fl_X8_16 dX8_sisters_126 (fun hk_126 => ?_)
            refine z_iconst (v := 5) F dX8_sisters_129 (by decide) ?_
            refine z_iload F dX8_sisters_130 rfl ?_
            refine z_iadd F dX8_sisters_132 ?_
            refine z_iald10n (q := (5 + p)) F (by with_reducible assumption) (by first | with_reducible rfl | (simp only [n4, n2, n3, n5, n14, n16, na1, na2, na3, nI_add, nI_1, nI_pred]; done) | (simp only [n4, n2, n3, n5, n14, n16, na1, na2, na3, nI_add, nI_1, nI_pred, Nat.add_assoc, Nat.add_comm, Nat.add_left_comm]; done)) (by rw [hz3]; omega) dX8_sisters_133 ?_
            try simp only [e9, e3, e2, efk, emg]
            refine z_istore (lv' := [_, _, _, _, _, _, _, _, _, _, _, _, _]) F dX8_sisters_134 (by decide) rfl rfl ?_
            refine z_iload F dX8_sisters_136 rfl ?_
            refine z_bipush (v := (-4)) F dX8_sisters_138 (by decide) ?_
            refine z_ic_eq (tgt := 174) F dX8_sisters_140 (by decide) (fun h_140 => ?_) (fun h_140 => ?_)
            · try simp only [e9, e3, e2, efk, emg] at h_140
              refine z_iconst (v := 0) F dX8_sisters_174 (by decide) ?_
              refine z_istore (lv' := [_, _, _, _, _, _, _, _, _, _, _, _, _]) F dX8_sisters_175 (by decide) rfl rfl ?_
              refine z_iload F dX8_sisters_177 rfl ?_
              refine z_if_eq (tgt := 187) F dX8_sisters_179 (by decide) (fun h_179 => ?_) (fun h_179 => absurd h_179 (by decide))
              refine z_iload F dX8_sisters_187 rfl ?_
              refine z_istore (lv' := [_, _, _, _, _, _, _, _, _, _, _, _, _]) F dX8_sisters_189 (by decide) rfl rfl ?_
              refine z_iload F dX8_sisters_191 rfl ?_
              refine z_iconst (v := 1) F dX8_sisters_193 (by decide) ?_
              refine z_iload F dX8_sisters_194 rfl ?_
              refine z_ishl F dX8_sisters_196 ?_
              refine z_ior F dX8_sisters_197 ?_
              refine z_istore (lv' := [_, _, _, _, _, _, _, _, _, _, _, _, _]) F dX8_sisters_198 (by decide) rfl rfl ?_
              refine z_iincc (c := 1) (lv' := [_, _, _, _, _, _, _, _, _, _, _, _, _]) F dX8_sisters_200 rfl (by decide) (by decide) rfl rfl ?_
              refine z_goto (tgt := 90) F dX8_sisters_203 (by decide) ?_
              exact ex0 _ _ _ _ _ hr0
            · try simp only [e9, e3, e2, efk, emg] at h_140
              refine z_aload_n F dX8_sisters_143 rfl ?_
              refine z_iload F dX8_sisters_144 rfl ?_
              refine z_callVi F (c_X8_worth J hk ho (nt := nt) (Or.inr ⟨jo, hjo, rfl⟩) h10) zm_X8_worth zv_X8_worth ml_X8_173 (by with_reducible assumption) (by decide) rfl rfl rfl (Nat.le_of_ble_eq_true rfl) dX8_sisters_146 (by omega) (fun r_146 M_146 h_146 => ?_)
              obtain ⟨e_146, f_146⟩ := h_146
              rw [e1] at f_146
              subst f_146
              replace e_146 := Eq.symm e_146
              subst e_146
              refine z_aload_n F dX8_sisters_149 rfl ?_
              refine z_iload F dX8_sisters_150 rfl ?_
              refine z_callVi F (c_X8_worth J hk ho (nt := nt) vo h10) zm_X8_worth zv_X8_worth ml_X8_173 (by with_reducible assumption) (by decide) rfl rfl rfl (Nat.le_of_ble_eq_true rfl) dX8_sisters_152 (by omega) (fun r_152 M_152 h_152 => ?_)
              obtain ⟨e_152, f_152⟩ := h_152
              rw [e1] at f_152
              subst f_152
              replace e_152 := Eq.symm e_152
              subst e_152
              refine z_aload_n F dX8_sisters_155 rfl ?_
              refine zg_X8_person F (by with_reducible assumption) fl_X8_13 dX8_sisters_156 (fun hk_156 => ?_)
              refine z_iconst (v := 2) F dX8_sisters_159 (by decide) ?_
              refine z_iload F dX8_sisters_160 rfl ?_
              refine z_imul F dX8_sisters_162 ?_
              refine z_iconst (v := 1) F dX8_sisters_163 (by decide) ?_
              refine z_iadd F dX8_sisters_164 ?_
              refine z_iald10n (q := ((2 * p) + 1)) F (by with_reducible assumption) (by first | with_reducible rfl | (simp only [n4, n2, n3, n5, n14, n16, na1, na2, na3, nI_add, nI_1, nI_pred]; done) | (simp only [n4, n2, n3, n5, n14, n16, na1, na2, na3, nI_add, nI_1, nI_pred, Nat.add_assoc, Nat.add_comm, Nat.add_left_comm]; done)) (by rw [hz2]; omega) dX8_sisters_165 ?_
              try simp only [e9, e3, e2, efk, emg]
              refine z_iadd F dX8_sisters_166 ?_
              refine z_ic_lt (tgt := 174) F dX8_sisters_167 (by decide) (fun h_167 => ?_) (fun h_167 => ?_)
              · try simp only [e9, e3, e2, efk, emg] at h_167
                refine z_iconst (v := 0) F dX8_sisters_174 (by decide) ?_
                refine z_istore (lv' := [_, _, _, _, _, _, _, _, _, _, _, _, _]) F dX8_sisters_175 (by decide) rfl rfl ?_
                refine z_iload F dX8_sisters_177 rfl ?_
                refine z_if_eq (tgt := 187) F dX8_sisters_179 (by decide) (fun h_179 => ?_) (fun h_179 => absurd h_179 (by decide))
                refine z_iload F dX8_sisters_187 rfl ?_
                refine z_istore (lv' := [_, _, _, _, _, _, _, _, _, _, _, _, _]) F dX8_sisters_189 (by decide) rfl rfl ?_
                refine z_iload F dX8_sisters_191 rfl ?_
                refine z_iconst (v := 1) F dX8_sisters_193 (by decide) ?_
                refine z_iload F dX8_sisters_194 rfl ?_
                refine z_ishl F dX8_sisters_196 ?_
                refine z_ior F dX8_sisters_197 ?_
                refine z_istore (lv' := [_, _, _, _, _, _, _, _, _, _, _, _, _]) F dX8_sisters_198 (by decide) rfl rfl ?_
                refine z_iincc (c := 1) (lv' := [_, _, _, _, _, _, _, _, _, _, _, _, _]) F dX8_sisters_200 rfl (by decide) (by decide) rfl rfl ?_
                refine z_goto (tgt := 90) F dX8_sisters_203 (by decide) ?_
                exact ex0 _ _ _ _ _ hr0
              · try simp only [e9, e3, e2, efk, emg] at h_167
                refine z_iconst (v := 1) F dX8_sisters_170 (by decide) ?_
                refine z_goto (tgt := 175) F dX8_sisters_171 (by decide) ?_
                refine z_istore (lv' := [_, _, _, _, _, _, _, _, _, _, _, _, _]) F dX8_sisters_175 (by decide) rfl rfl ?_
                refine z_iload F dX8_sisters_177 rfl ?_
                refine z_if_eq (tgt := 187) F dX8_sisters_179 (by decide) (fun h_179 => absurd h_179 (by decide)) (fun h_179 => ?_)
                refine z_iload F dX8_sisters_182 rfl ?_
                refine z_goto (tgt := 189) F dX8_sisters_184 (by decide) ?_
                refine z_istore (lv' := [_, _, _, _, _, _, _, _, _, _, _, _, _]) F dX8_sisters_189 (by decide) rfl rfl ?_
                refine z_iload F dX8_sisters_191 rfl ?_
                refine z_iconst (v := 1) F dX8_sisters_193 (by decide) ?_
                refine z_iload F dX8_sisters_194 rfl ?_
                refine z_ishl F dX8_sisters_196 ?_
                refine z_ior F dX8_sisters_197 ?_
                refine z_istore (lv' := [_, _, _, _, _, _, _, _, _, _, _, _, _]) F dX8_sisters_198 (by decide) rfl rfl ?_
                refine z_iincc (c := 1) (lv' := [_, _, _, _, _, _, _, _, _, _, _, _, _]) F dX8_sisters_200 rfl (by decide) (by decide) rfl rfl ?_
                refine z_goto (tgt := 90) F dX8_sisters_203 (by decide) ?_
                rw [nI_1]
                rcases vo with z | ⟨j2, hj2, z⟩
                · exact absurd z h_140
                obtain ⟨u2, hu2, ew2⟩ := hW j2 hj2
                have w2 : wrt (M.1 (o + 1)) (nI j2) = nI u2 := by rw [wrt_n _ (by omega), ew2]
                rw [z, wo, w2, nI_add] at h_167
                have h7 := (nI_leI (by omega) (by omega)).mp h_167
                rw [z]
                exact ihi (k + 1) j2 u2 _ _ _ (by omega) hj2 ew2 (by omega) (fun z => absurd z (by omega))
      refine z_iload F dX8_sisters_70 rfl ?_
      refine z_iconst (v := 1) F dX8_sisters_72 (by decide) ?_
      refine z_iload_n F dX8_sisters_73 rfl ?_
      refine z_ishl F dX8_sisters_74 ?_
      rw [sh]
      refine z_ic_ge (tgt := 240) F dX8_sisters_75 (by decide) (fun h_75 => absurd h_75 (nle (nI_lt (by omega) (by omega)))) (fun h_75 => ?_)
      refine z_iload_n F dX8_sisters_78 rfl ?_
      refine z_istore (lv' := [_, _, _, _, _, _, _, _, _, _, _, _, _]) F dX8_sisters_79 (by decide) rfl rfl ?_
      refine z_iconst (v := 0) F dX8_sisters_81 (by decide) ?_
      refine z_istore (lv' := [_, _, _, _, _, _, _, _, _, _, _, _, _]) F dX8_sisters_82 (by decide) rfl rfl ?_
      refine z_iconst (v := 1) F dX8_sisters_84 (by decide) ?_
      refine z_istore (lv' := [_, _, _, _, _, _, _, _, _, _, _, _, _]) F dX8_sisters_85 (by decide) rfl rfl ?_
      refine z_iconst (v := 0) F dX8_sisters_87 (by decide) ?_
      refine z_istore (lv' := [_, _, _, _, _, _, _, _, _, _, _, _, _]) F dX8_sisters_88 (by decide) rfl rfl ?_
      exact inn n 0 t0 u0 0 _ _ (by omega) ht ew0 (Nat.le_refl _) (fun _ => ⟨rfl, rfl⟩)
  have meets : ∀ (i : Nat), i ≤ 12 → ∀ (n : Nat) (f : zF1) (lv5 : Option Value), n + cS (M.1 (o + 2)) np i ≤ np → mtsOK np f n → ZW w g 13 6 [some (.ref (w.2.2 o)), some (.int (nI t0)), some (.int kk), some (.int (nI n)), some (.int (nI i - 1)), lv5, none, none, none, none, none, none, none] [] (za M (o + 9) f) := by
    intro i
    induction i with
    | zero =>
      intro hi n f lv5 hn hf
      refine z_iload F dX8_sisters_6 rfl ?_
      refine z_if_lt (tgt := 61) F dX8_sisters_8 (by decide) (fun h_8 => ?_) (fun h_8 => absurd h_8 (by decide))
      refine z_iconst (v := (-1)) F dX8_sisters_61 (by decide) ?_
      refine z_istore (lv' := [_, _, _, _, _, _, _, _, _, _, _, _, _]) F dX8_sisters_62 (by decide) rfl rfl ?_
      refine z_iconst (v := 0) F dX8_sisters_64 (by decide) ?_
      refine z_istore (lv' := [_, _, _, _, _, _, _, _, _, _, _, _, _]) F dX8_sisters_65 (by decide) rfl rfl ?_
      refine z_iconst (v := 0) F dX8_sisters_67 (by decide) ?_
      refine z_istore (lv' := [_, _, _, _, _, _, _, _, _, _, _, _, _]) F dX8_sisters_68 (by decide) rfl rfl ?_
      exact rows n f (by omega) hf (2 ^ n) 0 (-1) 0 _ _ _ _ _ _ (by omega) (Or.inl ⟨rfl, rfl, rfl⟩)
    | succ i ih =>
      intro hi n f lv5 hn hf
      rw [nI_pred]
      have inner : ∀ (j n : Nat) (f : zF1), j ≤ np → n + cA (M.1 (o + 2)) i j + cS (M.1 (o + 2)) np i ≤ np → mtsOK np f n → ZW w g 13 19 [some (.ref (w.2.2 o)), some (.int (nI t0)), some (.int kk), some (.int (nI n)), some (.int (nI i)), some (.int (nI j - 1)), none, none, none, none, none, none, none] [] (za M (o + 9) f) := by
        intro j
        induction j with
        | zero =>
          intro n f hj hn hf
          refine z_iload F dX8_sisters_19 rfl ?_
          refine z_if_lt (tgt := 55) F dX8_sisters_21 (by decide) (fun h_21 => ?_) (fun h_21 => absurd h_21 (by decide))
          refine z_iincc (c := (-1)) (lv' := [_, _, _, _, _, _, _, _, _, _, _, _, _]) F dX8_sisters_55 rfl (by decide) (by decide) rfl rfl ?_
          refine z_goto (tgt := 6) F dX8_sisters_58 (by decide) ?_
          rw [add_m1]
          exact ih (by omega) n f _ (by rw [cA] at hn; omega) hf
        | succ j ihj =>
          intro n f hj hn hf
          rw [cA] at hn
          rw [nI_pred]
          refine z_iload F dX8_sisters_19 rfl ?_
          refine z_if_lt (tgt := 55) F dX8_sisters_21 (by decide) (fun h_21 => absurd h_21 (nI_pos (by omega))) (fun h_21 => ?_)
          refine z_aload_n F dX8_sisters_24 rfl ?_
          refine zg_X8_person F (by with_reducible assumption) fl_X8_13 dX8_sisters_25 (fun hk_25 => ?_)
          refine z_iconst (v := 2) F dX8_sisters_28 (by decide) ?_
          refine z_iload F dX8_sisters_29 rfl ?_
          refine z_imul F dX8_sisters_31 ?_
          refine z_iald10n (q := (2 * j)) F (by with_reducible assumption) (by first | with_reducible rfl | (simp only [n4, n2, n3, n5, n14, n16, na1, na2, na3, nI_add, nI_1, nI_pred]; done) | (simp only [n4, n2, n3, n5, n14, n16, na1, na2, na3, nI_add, nI_1, nI_pred, Nat.add_assoc, Nat.add_comm, Nat.add_left_comm]; done)) (by rw [hz2]; omega) dX8_sisters_32 ?_
          try simp only [e2]
          refine z_iload F dX8_sisters_33 rfl ?_
          refine z_ic_ne (tgt := 49) F dX8_sisters_35 (by decide) (fun h_35 => ?_) (fun h_35 => ?_)
          · try simp only [e2] at h_35
            refine z_iincc (c := (-1)) (lv' := [_, _, _, _, _, _, _, _, _, _, _, _, _]) F dX8_sisters_49 rfl (by decide) (by decide) rfl rfl ?_
            refine z_goto (tgt := 19) F dX8_sisters_52 (by decide) ?_
            rw [add_m1]
            exact ihj n f (by omega) (by rw [if_neg h_35] at hn; omega) hf
          · try simp only [e2] at h_35
            refine z_aload_n F dX8_sisters_38 rfl ?_
            refine zg_X8_meets F (by with_reducible assumption) fl_X8_34 dX8_sisters_39 (fun hk_39 => ?_)
            refine z_iload_n F dX8_sisters_42 rfl ?_
            refine z_iload F dX8_sisters_43 rfl ?_
            refine z_iast10n (q := n) F (by with_reducible assumption) (by first | with_reducible rfl | (simp only [n4, n2, n3, n5, n14, n16, na1, na2, na3, nI_add, nI_1, nI_pred]; done) | (simp only [n4, n2, n3, n5, n14, n16, na1, na2, na3, nI_add, nI_1, nI_pred, Nat.add_assoc, Nat.add_comm, Nat.add_left_comm]; done)) (by rw [hz9]; rw [if_pos h_35] at hn; omega) dX8_sisters_45 ?_
            refine z_iincc (c := 1) (lv' := [_, _, _, _, _, _, _, _, _, _, _, _, _]) F dX8_sisters_46 rfl (by decide) (by decide) rfl rfl ?_
            refine z_iincc (c := (-1)) (lv' := [_, _, _, _, _, _, _, _, _, _, _, _, _]) F dX8_sisters_49 rfl (by decide) (by decide) rfl rfl ?_
            refine z_goto (tgt := 19) F dX8_sisters_52 (by decide) ?_
            rw [add_m1, nI_1, zs_zaa]
            refine ihj (n + 1) _ (by omega) (by rw [if_pos h_35] at hn; omega) (fun q hq => ?_)
            by_cases z : q = n
            · subst z; exact ⟨j, by omega, va_up_self _ _ _⟩
            · obtain ⟨p, p1, p2⟩ := hf q (by omega)
              exact ⟨p, p1, (va_up_ne _ _ z).trans p2⟩
      refine z_iload F dX8_sisters_6 rfl ?_
      refine z_if_lt (tgt := 61) F dX8_sisters_8 (by decide) (fun h_8 => absurd h_8 (nI_pos (by omega))) (fun h_8 => ?_)
      refine z_aload_n F dX8_sisters_11 rfl ?_
      refine zg_X8_people F (by with_reducible assumption) fl_X8_76 dX8_sisters_12 ?_
      try simp only [e0]
      refine z_iconst (v := 1) F dX8_sisters_15 (by decide) ?_
      refine z_isub F dX8_sisters_16 ?_
      refine z_istore (lv' := [_, _, _, _, _, _, _, _, _, _, _, _, _]) F dX8_sisters_17 (by decide) rfl rfl ?_
      exact inner np n f (Nat.le_refl _) (by rw [cS] at hn; omega) hf
  refine z_iconst (v := 0) F dX8_sisters_0 (by decide) ?_
  refine z_istore_n (lv' := [_, _, _, _, _, _, _, _, _, _, _, _, _]) F dX8_sisters_1 (by decide) rfl rfl ?_
  refine z_bipush (v := 11) F dX8_sisters_2 (by decide) ?_
  refine z_istore (lv' := [_, _, _, _, _, _, _, _, _, _, _, _, _]) F dX8_sisters_4 (by decide) rfl rfl ?_
  have k0 := meets 12 (Nat.le_refl _) 0 (M.1 (o + 9)) none (by have := cS_le (M.1 (o + 2)) (Nat.le_refl 12) np; omega) (fun k hk2 => absurd hk2 (by omega))
  rw [za_self] at k0
  exact k0
theorem zgx.m {o : Nat} {M M' : zM} {f : zF1} (h : zgx o M M') : zgx o M (za M' (o + 9) f) := h.a (Or.inr (Or.inr (Or.inl rfl)))
theorem c_X8_sister {l : Launch} {w : zE} (J : zJ w) {M : zM} {o nt np a : Nat} {x k : Int32} (hk : zk o = 8) (ho : o = 138) (ok : rOK M o nt np a) (hW : wOK nt (M.1 (o + 1))) (hG : mOK np (M.1 (o + 2))) : zCi l w yX8_sister cX8_sister 4 (some .int) 7 [.ref (w.2.2 o), .int x, .int k] M (fun r M2 => zgf o M M2 ∧ r = if (0 ≤ x ∧ x < M.1 o 0) ∧ ¬ (k < 0 ∨ 1 < k) then (if whoR (hmR M o np a).1 x np = -4 then (if k = 0 then wrt (M.1 (o + 1)) x else 0) else -2) else -1) := by
  obtain ⟨hz1, hz2, hz3, hz4, hz5, hz6, hz7, hz8, hz9, hz10, hz11, hz12, hz13, hz14, hz15⟩ := zn8 ho
  obtain ⟨hnt, h10, hnp, h8, kd, tv, ha, h12, hts⟩ := id ok
  have xz : zgx o M (zr (asd M o) o (hmR M o np a).1 (hmR M o np a).2) := (asd_x M o).r
  have g1 := xz.2.2 1 (by decide) (by decide) (by decide)
  have b1 := xz.2.1 (o + 1) (by omega) (by omega) (by omega) (by omega) (by omega)
  have b2 := xz.2.1 (o + 2) (by omega) (by omega) (by omega) (by omega) (by omega)
  have b3 : (zr (asd M o) o (hmR M o np a).1 (hmR M o np a).2).1 (o + 3) = (hmR M o np a).1 := zr_T _ _ _ _
  have b8 : (zr (asd M o) o (hmR M o np a).1 (hmR M o np a).2).1 (o + 8) = M.1 (o + 3) := (zr8 _ _ _ _).trans (asd_8 M o)
  refine zCi_of J zm_X8_sister [some (.ref (w.2.2 o)), some (.int x), some (.int k), none] (Nat.le_of_ble_eq_true rfl) rfl (fun g hg F X => ?_)
  subst hg
  refine z_aload_n F dX8_sister_0 rfl ?_
  refine z_iload_n F dX8_sister_1 rfl ?_
  refine z_i2l F dX8_sister_2 ?_
  refine z_callVi F (d_X8_isThing J hk hnt h10) zm_X8_isThing zv_X8_isThing ml_X8_89 (by with_reducible assumption) (by decide) rfl rfl rfl (Nat.le_of_ble_eq_true rfl) dX8_sister_3 (by omega) (fun r_3 M_3 h_3 => ?_)
  obtain ⟨e_3, rfl⟩ := h_3
  replace e_3 := Eq.symm e_3
  subst e_3
  refine z_if_eq (tgt := 19) F dX8_sister_6 (by decide) (fun h_6 => ?_) (fun h_6 => ?_)
  · replace h_6 := bI_0.mp h_6
    refine z_iconst (v := (-1)) F dX8_sister_19 (by decide) ?_
    refine z_iret F X dX8_sister_20 ?_
    exact ⟨zgf.rf hts, (if_neg (fun z => h_6 z.1)).symm⟩
  · replace h_6 := bI_1.mp h_6
    refine z_iload_n F dX8_sister_9 rfl ?_
    refine z_i2l F dX8_sister_10 ?_
    refine z_lconst (v := 0) F dX8_sister_11 (by decide) ?_
    refine z_lconst (v := 1) F dX8_sister_12 (by decide) ?_
    refine z_callSi F (d_X8_in J (a := 0) (b := 1) (by decide) (by decide)) zm_X8_in zst_X8_in ml_X8_72 rfl rfl (Nat.le_of_ble_eq_true rfl) dX8_sister_13 (by omega) (fun r_13 M_13 h_13 => ?_)
    obtain ⟨e_13, rfl⟩ := h_13
    replace e_13 := Eq.symm e_13
    subst e_13
    refine z_if_ne (tgt := 21) F dX8_sister_16 (by decide) (fun h_16 => ?_) (fun h_16 => ?_)
    · replace h_16 := bI_1.mp h_16
      refine z_aload_n F dX8_sister_21 rfl ?_
      refine z_callVv F (c_X8_asides J hk ho) zm_X8_asides zv_X8_asides ml_X8_195 (by with_reducible assumption) (by decide) rfl rfl rfl (Nat.le_of_ble_eq_true rfl) dX8_sister_22 (by omega) (fun M_22 h_22 => ?_)
      replace h_22 := Eq.symm h_22
      subst h_22
      refine z_aload_n F dX8_sister_25 rfl ?_
      refine z_bipush (v := (-4)) F dX8_sister_26 (by decide) ?_
      refine zp_X8_more F (by with_reducible assumption) fl_X8_186 dX8_sister_28 ?_
      have hv : (0 ≤ x ∧ x < M.1 o 0) ∧ ¬ (k < 0 ∨ 1 < k) := ⟨h_6, by grind⟩
      obtain ⟨t0, ht0, rfl⟩ := n_in (n := nt) (by rw [← hnt]; exact h_6) (by omega)
      rw [show zs (za M (o + 8) (M.1 (o + 3))) o 7 (-4) = asd M o from rfl]
      refine z_aload_n F dX8_sister_31 rfl ?_
      refine z_callVv F (d_goesHome J hk ho ok) zm_X8_goesHome zv_X8_goesHome ml_X8_198 (by with_reducible assumption) (by decide) rfl rfl rfl (Nat.le_of_ble_eq_true rfl) dX8_sister_32 (by omega) (fun M_32 h_32 => ?_)
      replace h_32 := Eq.symm h_32
      subst h_32
      refine z_aload_n F dX8_sister_35 rfl ?_
      refine z_iload_n F dX8_sister_36 rfl ?_
      refine z_callVi F (c_X8_who J hk ho (np := np) (by rw [g1]; exact hnp) h8) zm_X8_who zv_X8_who ml_X8_95 (by with_reducible assumption) (by decide) rfl rfl rfl (Nat.le_of_ble_eq_true rfl) dX8_sister_37 (by omega) (fun r_37 M_37 h_37 => ?_)
      obtain ⟨e_37, rfl⟩ := h_37
      replace e_37 := Eq.symm e_37
      subst e_37
      rw [b3]
      refine z_bipush (v := (-4)) F dX8_sister_40 (by decide) ?_
      refine z_ic_ne (tgt := 54) F dX8_sister_42 (by decide) (fun h_42 => ?_) (fun h_42 => ?_)
      · refine z_bipush (v := (-2)) F dX8_sister_54 (by decide) ?_
        refine z_istore_n (lv' := [_, _, _, _]) F dX8_sister_56 (by decide) rfl rfl ?_
        refine z_aload_n F dX8_sister_57 rfl ?_
        refine z_callVv F (c_X8_backs J hk ho) zm_X8_backs zv_X8_backs ml_X8_201 (by with_reducible assumption) (by decide) rfl rfl rfl (Nat.le_of_ble_eq_true rfl) dX8_sister_58 (by omega) (fun M_58 h_58 => ?_)
        replace h_58 := Eq.symm h_58
        subst h_58
        refine z_iload_n F dX8_sister_61 rfl ?_
        refine z_iret F X dX8_sister_62 ?_
        refine ⟨?_, ?_⟩
        · exact zgf.back xz b8
        · rw [if_pos hv, if_neg h_42]
      · refine z_aload_n F dX8_sister_45 rfl ?_
        refine z_iload_n F dX8_sister_46 rfl ?_
        refine z_iload_n F dX8_sister_47 rfl ?_
        refine z_callVi F (c_X8_sisters J hk ho (nt := nt) (np := np) h10 (by rw [g1]; exact hnp) h8 (by rw [b3]; exact hmR_tv ok) (by rw [b1]; exact hW) (by rw [b2]; exact hG) ht0) zm_X8_sisters zv_X8_sisters ml_X8_204 (by with_reducible assumption) (by decide) rfl rfl rfl (Nat.le_of_ble_eq_true rfl) dX8_sister_48 (by omega) (fun r_48 M_48 h_48 => ?_)
        obtain ⟨⟨f, e_48⟩, f_48⟩ := h_48
        rw [b1] at f_48
        subst f_48
        subst e_48
        refine z_goto (tgt := 56) F dX8_sister_51 (by decide) ?_
        refine z_istore_n (lv' := [_, _, _, _]) F dX8_sister_56 (by decide) rfl rfl ?_
        refine z_aload_n F dX8_sister_57 rfl ?_
        refine z_callVv F (c_X8_backs J hk ho) zm_X8_backs zv_X8_backs ml_X8_201 (by with_reducible assumption) (by decide) rfl rfl rfl (Nat.le_of_ble_eq_true rfl) dX8_sister_58 (by omega) (fun M_58 h_58 => ?_)
        replace h_58 := Eq.symm h_58
        subst h_58
        refine z_iload_n F dX8_sister_61 rfl ?_
        refine z_iret F X dX8_sister_62 ?_
        refine ⟨?_, ?_⟩
        · exact zgf.back (M' := za (zr (asd M o) o (hmR M o np a).1 (hmR M o np a).2) (o + 9) f) xz.m (by rw [za_off _ (by omega)]; exact b8)
        · rw [if_pos hv, if_pos h_42]
    · replace h_16 := bI_0.mp h_16
      refine z_iconst (v := (-1)) F dX8_sister_19 (by decide) ?_
      refine z_iret F X dX8_sister_20 ?_
      exact ⟨zgf.rf hts, (if_neg (fun z => h_16 (by grind))).symm⟩
