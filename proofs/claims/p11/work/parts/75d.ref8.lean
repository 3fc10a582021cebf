/-! what moved him, by changes seen, in general -/
theorem mind_and (s : Int32) (P Q : Prop) [Decidable P] [Decidable Q] : (s &&& (if P then 3 else 2)) &&& (if Q then 3 else 1) = s &&& ((0 ||| (if P then 1 else 0)) ||| (if Q then 2 else 0)) := by
  rw [Int32.and_assoc]
  refine congrArg (s &&& ·) ?_
  split <;> split <;> decide
theorem l_in {v : Int64} {nt : Nat} (h : 0 ≤ v ∧ v < (nI nt).toInt64) (h10 : nt ≤ 10) : ∃ j, j < nt ∧ v.toInt32 = nI j := by
  rw [nI_l (by omega), Int64.lt_iff_toInt_lt, lN_toInt (by omega), Int64.le_iff_toInt_le] at h
  have h0 : (0 : Int64).toInt = 0 := by decide
  rw [h0] at h
  refine ⟨v.toInt.toNat, by omega, ?_⟩
  have e : v = lN v.toInt.toNat := by
    apply Int64.toInt_inj.mp
    rw [lN_toInt (by omega)]
    omega
  rw [e, lN_i, lN_toInt (by omega)]
  rfl
theorem allIn_2 {f : Nat → Int64} {nt : Int32} : ∀ (t a : Nat), allIn f nt (2 * t) a → (0 ≤ f (a + 2 * t) ∧ f (a + 2 * t) < nt.toInt64) → (0 ≤ f (a + 2 * t + 1) ∧ f (a + 2 * t + 1) < nt.toInt64) → allIn f nt (2 * (t + 1)) a := by
  intro t
  induction t with
  | zero => intro a _ h1 h2; exact ⟨h1, h2, trivial⟩
  | succ t ih =>
    intro a h h1 h2
    obtain ⟨g1, g2, g3⟩ := h
    exact ⟨g1, g2, ih (a + 1 + 1) g3 (by rw [show a + 1 + 1 + 2 * t = a + 2 * (t + 1) by omega]; exact h1) (by rw [show a + 1 + 1 + 2 * t + 1 = a + 2 * (t + 1) + 1 by omega]; exact h2)⟩
theorem allIn_n {f : Nat → Int64} {nt : Int32} {m a q : Nat} (h : allIn f nt m a) (h1 : a ≤ q) (h2 : q < a + m) (z : ¬ (0 ≤ f q ∧ f q < nt.toInt64)) : False := z (allIn_at h q h1 h2)
theorem seenL_s {th : zF1} {f : Nat → Int64} : ∀ (t a : Nat) (s : Int32), seenL th f (t + 1) a s = seenL th f t a s &&& mindsF th (f (a + 2 * t)).toInt32.toNatClampNeg (f (a + 2 * t + 1)).toInt32.toNatClampNeg := by
  intro t
  induction t with
  | zero => intro a s; rfl
  | succ t ih =>
    intro a s
    rw [seenL, ih, seenL, show a + 2 + 2 * t = a + 2 * (t + 1) by omega]
theorem c_X8_seen {l : Launch} {w : zE} (J : zJ w) {M : zM} {o nt : Nat} {x ln i n : Int32} (hk : zk o = 8) (ho : o = 138) (hnt : M.1 o 0 = nI nt) (h10 : nt ≤ 10) (kd : kdOK (M.1 (o + 1))) (hS : szOK (M.1 (o + 13))) : zCi l w yX8_seen cX8_seen 10 (some .int) 2 [.ref (w.2.2 o), .int x, .int ln, .int i, .int n] M (fun r M2 => M2 = M ∧ ((((x < 0 ∨ 3 < x) ∨ (ln < 0 ∨ 3 < ln)) ∨ (n < 1 ∨ 8 < n)) ∧ r = -1 ∨ ¬ (((x < 0 ∨ 3 < x) ∨ (ln < 0 ∨ 3 < ln)) ∨ (n < 1 ∨ 8 < n)) ∧ ∃ q, q < 4 ∧ x = nI q ∧ (whyF (M.1 (o + 12) q) (M.1 (o + 13) q) ln i (2 * n) < 0 ∧ r = whyF (M.1 (o + 12) q) (M.1 (o + 13) q) ln i (2 * n) ∨ ¬ whyF (M.1 (o + 12) q) (M.1 (o + 13) q) ln i (2 * n) < 0 ∧ ∃ a m, i = nI a ∧ n = nI m ∧ a + 2 * m ≤ 16 ∧ (¬ allIn (fun k => M.2 (o + 14) (16 * q + k)) (M.1 o 0) (2 * m) a ∧ r = -2 ∨ allIn (fun k => M.2 (o + 14) (16 * q + k)) (M.1 o 0) (2 * m) a ∧ r = seenL (M.1 (o + 1)) (fun k => M.2 (o + 14) (16 * q + k)) m a 3)))) := by
  obtain ⟨hz1, hz2, hz3, hz4, hz5, hz6, hz7, hz8, hz9, hz10, hz11, hz12, hz13, hz14, hz15⟩ := zn8 ho
  refine zCi_of J zm_X8_seen [some (.ref (w.2.2 o)), some (.int x), some (.int ln), some (.int i), some (.int n), none, none, none, none, none] (Nat.le_of_ble_eq_true rfl) rfl (fun g hg F X => ?_)
  subst hg
  have key2 : ∀ (q a m : Nat) (y : Int32), q < 4 → a + 2 * m ≤ 16 → allIn (fun k => M.2 (o + 14) (16 * q + k)) (M.1 o 0) (2 * m) a → (∀ lv8 lv9, ZW w g 10 226 [some (.ref (w.2.2 o)), some (.int (nI q)), some (.int ln), some (.int (nI a)), some (.int (nI m)), some (.int y), some (.int (seenL (M.1 (o + 1)) (fun k => M.2 (o + 14) (16 * q + k)) m a 3)), some (.int (nI (16 * q + a + 2 * m))), lv8, lv9] [] M) → ∀ (r t : Nat) (lv8 lv9 : Option Value), t + r = m → zok [none, none, none, none, none, none, none, none, lv8, lv9] 9 = true → ZW w g 10 124 [some (.ref (w.2.2 o)), some (.int (nI q)), some (.int ln), some (.int (nI a)), some (.int (nI m)), some (.int y), some (.int (seenL (M.1 (o + 1)) (fun k => M.2 (o + 14) (16 * q + k)) t a 3)), some (.int (nI (16 * q + a + 2 * t))), lv8, lv9] [] M := by
    intro q a m y hq ham hal K r
    induction r with
    | zero =>
      intro t lv8 lv9 htr hok
      obtain rfl : t = m := by omega
      refine z_iload F dX8_seen_124 rfl ?_
      refine z_bipush (v := 16) F dX8_seen_126 (by decide) ?_
      refine z_iload_n F dX8_seen_128 rfl ?_
      refine z_imul F dX8_seen_129 ?_
      refine z_iload_n F dX8_seen_130 rfl ?_
      refine z_iadd F dX8_seen_131 ?_
      refine z_iconst (v := 2) F dX8_seen_132 (by decide) ?_
      refine z_iload F dX8_seen_133 rfl ?_
      refine z_imul F dX8_seen_135 ?_
      refine z_iadd F dX8_seen_136 ?_
      refine z_ic_ge (tgt := 226) F dX8_seen_137 (by decide) (fun h_137 => ?_) (fun h_137 => absurd h_137 (by simp only [n16, n2, nI_add]; exact Int32.not_lt.mpr (Int32.le_refl _)))
      exact K _ _
    | succ r ih =>
      intro t lv8 lv9 htr hok
      have g1 := allIn_at hal (a + 2 * t) (by omega) (by omega)
      have g2 := allIn_at hal (a + 2 * t + 1) (by omega) (by omega)
      rw [hnt] at g1 g2
      obtain ⟨j1, hj1, e1⟩ := l_in g1 h10
      obtain ⟨j2, hj2, e2⟩ := l_in g2 h10
      have ea : M.2 (o + 14) (16 * q + a + 2 * t) = M.2 (o + 14) (16 * q + (a + 2 * t)) := by rw [Nat.add_assoc]
      have eb : M.2 (o + 14) (16 * q + a + 2 * t + 1) = M.2 (o + 14) (16 * q + (a + 2 * t + 1)) := by rw [Nat.add_assoc, Nat.add_assoc, Nat.add_assoc]
      refine z_iload F dX8_seen_124 rfl ?_
      refine z_bipush (v := 16) F dX8_seen_126 (by decide) ?_
      refine z_iload_n F dX8_seen_128 rfl ?_
      refine z_imul F dX8_seen_129 ?_
      refine z_iload_n F dX8_seen_130 rfl ?_
      refine z_iadd F dX8_seen_131 ?_
      refine z_iconst (v := 2) F dX8_seen_132 (by decide) ?_
      refine z_iload F dX8_seen_133 rfl ?_
      refine z_imul F dX8_seen_135 ?_
      refine z_iadd F dX8_seen_136 ?_
      refine z_ic_ge (tgt := 226) F dX8_seen_137 (by decide) (fun h_137 => absurd h_137 (by simp only [n16, n2, nI_add]; exact nI_ge (by omega) (by omega))) (fun h_137 => ?_)
      refine z_aload_n F dX8_seen_140 rfl ?_
      refine zg_X8_items F (by with_reducible assumption) fl_X8_49 dX8_seen_141 (fun hk_141 => ?_)
      refine z_iload F dX8_seen_144 rfl ?_
      refine z_lald14n (q := (16*q+a+2*t)) F (by with_reducible assumption) (by first | with_reducible rfl | (simp only [n4, n2, n3, n5, n14, n16, na1, na2, na3, nI_add, nI_1, nI_pred]; done) | (simp only [n4, n2, n3, n5, n14, n16, na1, na2, na3, nI_add, nI_1, nI_pred, Nat.add_assoc, Nat.add_comm, Nat.add_left_comm]; done)) (by rw [hz14]; omega) dX8_seen_146 ?_
      refine z_l2i F dX8_seen_147 ?_
      rw [ea]
      rw [show (M.2 (o + 14) (16 * q + (a + 2 * t))).toInt32 = nI j1 from e1]
      refine z_istore (lv' := [_, _, _, _, _, _, _, _, _, _]) F dX8_seen_148 (by decide) rfl rfl ?_
      refine z_aload_n F dX8_seen_150 rfl ?_
      refine zg_X8_items F (by with_reducible assumption) fl_X8_49 dX8_seen_151 (fun hk_151 => ?_)
      refine z_iload F dX8_seen_154 rfl ?_
      refine z_iconst (v := 1) F dX8_seen_156 (by decide) ?_
      refine z_iadd F dX8_seen_157 ?_
      refine z_lald14n (q := ((16*q+a+2*t) + 1)) F (by with_reducible assumption) (by first | with_reducible rfl | (simp only [n4, n2, n3, n5, n14, n16, na1, na2, na3, nI_add, nI_1, nI_pred]; done) | (simp only [n4, n2, n3, n5, n14, n16, na1, na2, na3, nI_add, nI_1, nI_pred, Nat.add_assoc, Nat.add_comm, Nat.add_left_comm]; done)) (by rw [hz14]; omega) dX8_seen_158 ?_
      refine z_l2i F dX8_seen_159 ?_
      rw [eb]
      rw [show (M.2 (o + 14) (16 * q + (a + 2 * t + 1))).toInt32 = nI j2 from e2]
      refine z_istore (lv' := [_, _, _, _, _, _, _, _, _, _]) F dX8_seen_160 (by decide) rfl rfl ?_
      refine z_iload F dX8_seen_162 rfl ?_
      refine z_aload_n F dX8_seen_164 rfl ?_
      refine z_iload F dX8_seen_165 rfl ?_
      refine z_iconst (v := 0) F dX8_seen_167 (by decide) ?_
      refine z_iconst (v := 0) F dX8_seen_168 (by decide) ?_
      refine z_callVi F (c_X8_feels J (j := j1) hk ho (by omega) kd) zm_X8_feels zv_X8_feels ml_X8_99 (by with_reducible assumption) (by decide) rfl rfl rfl (Nat.le_of_ble_eq_true rfl) dX8_seen_169 (by omega) (fun r_169 M_169 h_169 => ?_)
      obtain ⟨e_169, rfl⟩ := h_169
      replace e_169 := Eq.symm e_169
      subst e_169
      refine z_aload_n F dX8_seen_172 rfl ?_
      refine z_iload F dX8_seen_173 rfl ?_
      refine z_iconst (v := 0) F dX8_seen_175 (by decide) ?_
      refine z_iconst (v := 0) F dX8_seen_176 (by decide) ?_
      refine z_callVi F (c_X8_feels J (j := j2) hk ho (by omega) kd) zm_X8_feels zv_X8_feels ml_X8_99 (by with_reducible assumption) (by decide) rfl rfl rfl (Nat.le_of_ble_eq_true rfl) dX8_seen_177 (by omega) (fun r_177 M_177 h_177 => ?_)
      obtain ⟨e_177, rfl⟩ := h_177
      replace e_177 := Eq.symm e_177
      subst e_177
      refine z_ic_le (tgt := 187) F dX8_seen_180 (by decide) (fun h_180 => ?_) (fun h_180 => ?_)
      · refine z_iconst (v := 2) F dX8_seen_187 (by decide) ?_
        refine z_iand F dX8_seen_188 ?_
        refine z_istore (lv' := [_, _, _, _, _, _, _, _, _, _]) F dX8_seen_189 (by decide) rfl rfl ?_
        refine z_iload F dX8_seen_191 rfl ?_
        refine z_aload_n F dX8_seen_193 rfl ?_
        refine z_iload F dX8_seen_194 rfl ?_
        refine z_iconst (v := 0) F dX8_seen_196 (by decide) ?_
        refine z_iconst (v := 1) F dX8_seen_197 (by decide) ?_
        refine z_callVi F (c_X8_feels J (j := j1) hk ho (by omega) kd) zm_X8_feels zv_X8_feels ml_X8_99 (by with_reducible assumption) (by decide) rfl rfl rfl (Nat.le_of_ble_eq_true rfl) dX8_seen_198 (by omega) (fun r_198 M_198 h_198 => ?_)
        obtain ⟨e_198, rfl⟩ := h_198
        replace e_198 := Eq.symm e_198
        subst e_198
        refine z_aload_n F dX8_seen_201 rfl ?_
        refine z_iload F dX8_seen_202 rfl ?_
        refine z_iconst (v := 0) F dX8_seen_204 (by decide) ?_
        refine z_iconst (v := 1) F dX8_seen_205 (by decide) ?_
        refine z_callVi F (c_X8_feels J (j := j2) hk ho (by omega) kd) zm_X8_feels zv_X8_feels ml_X8_99 (by with_reducible assumption) (by decide) rfl rfl rfl (Nat.le_of_ble_eq_true rfl) dX8_seen_206 (by omega) (fun r_206 M_206 h_206 => ?_)
        obtain ⟨e_206, rfl⟩ := h_206
        replace e_206 := Eq.symm e_206
        subst e_206
        refine z_ic_le (tgt := 216) F dX8_seen_209 (by decide) (fun h_209 => ?_) (fun h_209 => ?_)
        · refine z_iconst (v := 1) F dX8_seen_216 (by decide) ?_
          refine z_iand F dX8_seen_217 ?_
          refine z_istore (lv' := [_, _, _, _, _, _, _, _, _, _]) F dX8_seen_218 (by decide) rfl rfl ?_
          refine z_iincc (c := 2) (lv' := [_, _, _, _, _, _, _, _, _, _]) F dX8_seen_220 rfl (by decide) (by decide) rfl rfl ?_
          refine z_goto (tgt := 124) F dX8_seen_223 (by decide) ?_
          have Q := ih (t + 1) (some (.int (nI j1))) (some (.int (nI j2))) (by omega) rfl
          rw [seenL_s, show 16 * q + a + 2 * (t + 1) = 16 * q + a + 2 * t + 2 by omega] at Q
          simp only [e1, e2, nI_clamp (show j1 < 2 ^ 31 by omega), nI_clamp (show j2 < 2 ^ 31 by omega), mindsF] at Q
          rw [← mind_and] at Q
          rw [show nI (16 * q + a + 2 * t) + 2 = nI (16 * q + a + 2 * t + 2) from nI_add _ 2]
          first | (rw [if_pos h_180, if_pos h_209] at Q; exact Q) | (rw [if_pos h_180, if_neg (nlt h_209)] at Q; exact Q) | (rw [if_neg (nlt h_180), if_pos h_209] at Q; exact Q) | (rw [if_neg (nlt h_180), if_neg (nlt h_209)] at Q; exact Q)
        · refine z_iconst (v := 3) F dX8_seen_212 (by decide) ?_
          refine z_goto (tgt := 217) F dX8_seen_213 (by decide) ?_
          refine z_iand F dX8_seen_217 ?_
          refine z_istore (lv' := [_, _, _, _, _, _, _, _, _, _]) F dX8_seen_218 (by decide) rfl rfl ?_
          refine z_iincc (c := 2) (lv' := [_, _, _, _, _, _, _, _, _, _]) F dX8_seen_220 rfl (by decide) (by decide) rfl rfl ?_
          refine z_goto (tgt := 124) F dX8_seen_223 (by decide) ?_
          have Q := ih (t + 1) (some (.int (nI j1))) (some (.int (nI j2))) (by omega) rfl
          rw [seenL_s, show 16 * q + a + 2 * (t + 1) = 16 * q + a + 2 * t + 2 by omega] at Q
          simp only [e1, e2, nI_clamp (show j1 < 2 ^ 31 by omega), nI_clamp (show j2 < 2 ^ 31 by omega), mindsF] at Q
          rw [← mind_and] at Q
          rw [show nI (16 * q + a + 2 * t) + 2 = nI (16 * q + a + 2 * t + 2) from nI_add _ 2]
          first | (rw [if_pos h_180, if_pos h_209] at Q; exact Q) | (rw [if_pos h_180, if_neg (nlt h_209)] at Q; exact Q) | (rw [if_neg (nlt h_180), if_pos h_209] at Q; exact Q) | (rw [if_neg (nlt h_180), if_neg (nlt h_209)] at Q; exact Q)
      · refine z_iconst (v := 3) F dX8_seen_183 (by decide) ?_
        refine z_goto (tgt := 188) F dX8_seen_184 (by decide) ?_
        refine z_iand F dX8_seen_188 ?_
        refine z_istore (lv' := [_, _, _, _, _, _, _, _, _, _]) F dX8_seen_189 (by decide) rfl rfl ?_
        refine z_iload F dX8_seen_191 rfl ?_
        refine z_aload_n F dX8_seen_193 rfl ?_
        refine z_iload F dX8_seen_194 rfl ?_
        refine z_iconst (v := 0) F dX8_seen_196 (by decide) ?_
        refine z_iconst (v := 1) F dX8_seen_197 (by decide) ?_
        refine z_callVi F (c_X8_feels J (j := j1) hk ho (by omega) kd) zm_X8_feels zv_X8_feels ml_X8_99 (by with_reducible assumption) (by decide) rfl rfl rfl (Nat.le_of_ble_eq_true rfl) dX8_seen_198 (by omega) (fun r_198 M_198 h_198 => ?_)
        obtain ⟨e_198, rfl⟩ := h_198
        replace e_198 := Eq.symm e_198
        subst e_198
        refine z_aload_n F dX8_seen_201 rfl ?_
        refine z_iload F dX8_seen_202 rfl ?_
        refine z_iconst (v := 0) F dX8_seen_204 (by decide) ?_
        refine z_iconst (v := 1) F dX8_seen_205 (by decide) ?_
        refine z_callVi F (c_X8_feels J (j := j2) hk ho (by omega) kd) zm_X8_feels zv_X8_feels ml_X8_99 (by with_reducible assumption) (by decide) rfl rfl rfl (Nat.le_of_ble_eq_true rfl) dX8_seen_206 (by omega) (fun r_206 M_206 h_206 => ?_)
        obtain ⟨e_206, rfl⟩ := h_206
        replace e_206 := Eq.symm e_206
        subst e_206
        refine z_ic_le (tgt := 216) F dX8_seen_209 (by decide) (fun h_209 => ?_) (fun h_209 => ?_)
        · refine z_iconst (v := 1) F dX8_seen_216 (by decide) ?_
          refine z_iand F dX8_seen_217 ?_
          refine z_istore (lv' := [_, _, _, _, _, _, _, _, _, _]) F dX8_seen_218 (by decide) rfl rfl ?_
          refine z_iincc (c := 2) (lv' := [_, _, _, _, _, _, _, _, _, _]) F dX8_seen_220 rfl (by decide) (by decide) rfl rfl ?_
          refine z_goto (tgt := 124) F dX8_seen_223 (by decide) ?_
          have Q := ih (t + 1) (some (.int (nI j1))) (some (.int (nI j2))) (by omega) rfl
          rw [seenL_s, show 16 * q + a + 2 * (t + 1) = 16 * q + a + 2 * t + 2 by omega] at Q
          simp only [e1, e2, nI_clamp (show j1 < 2 ^ 31 by omega), nI_clamp (show j2 < 2 ^ 31 by omega), mindsF] at Q
          rw [← mind_and] at Q
          rw [show nI (16 * q + a + 2 * t) + 2 = nI (16 * q + a + 2 * t + 2) from nI_add _ 2]
          first | (rw [if_pos h_180, if_pos h_209] at Q; exact Q) | (rw [if_pos h_180, if_neg (nlt h_209)] at Q; exact Q) | (rw [if_neg (nlt h_180), if_pos h_209] at Q; exact Q) | (rw [if_neg (nlt h_180), if_neg (nlt h_209)] at Q; exact Q)
        · refine z_iconst (v := 3) F dX8_seen_212 (by decide) ?_
          refine z_goto (tgt := 217) F dX8_seen_213 (by decide) ?_
          refine z_iand F dX8_seen_217 ?_
          refine z_istore (lv' := [_, _, _, _, _, _, _, _, _, _]) F dX8_seen_218 (by decide) rfl rfl ?_
          refine z_iincc (c := 2) (lv' := [_, _, _, _, _, _, _, _, _, _]) F dX8_seen_220 rfl (by decide) (by decide) rfl rfl ?_
          refine z_goto (tgt := 124) F dX8_seen_223 (by decide) ?_
          have Q := ih (t + 1) (some (.int (nI j1))) (some (.int (nI j2))) (by omega) rfl
          rw [seenL_s, show 16 * q + a + 2 * (t + 1) = 16 * q + a + 2 * t + 2 by omega] at Q
          simp only [e1, e2, nI_clamp (show j1 < 2 ^ 31 by omega), nI_clamp (show j2 < 2 ^ 31 by omega), mindsF] at Q
          rw [← mind_and] at Q
          rw [show nI (16 * q + a + 2 * t) + 2 = nI (16 * q + a + 2 * t + 2) from nI_add _ 2]
          first | (rw [if_pos h_180, if_pos h_209] at Q; exact Q) | (rw [if_pos h_180, if_neg (nlt h_209)] at Q; exact Q) | (rw [if_neg (nlt h_180), if_pos h_209] at Q; exact Q) | (rw [if_neg (nlt h_180), if_neg (nlt h_209)] at Q; exact Q)
  have key1 : ∀ (q a m : Nat) (y : Int32), q < 4 → a + 2 * m ≤ 16 → (¬ allIn (fun k => M.2 (o + 14) (16 * q + k)) (M.1 o 0) (2 * m) a → ∀ lv, ZW w g 10 107 lv [] M) → (allIn (fun k => M.2 (o + 14) (16 * q + k)) (M.1 o 0) (2 * m) a → ∀ z, ZW w g 10 116 [some (.ref (w.2.2 o)), some (.int (nI q)), some (.int ln), some (.int (nI a)), some (.int (nI m)), some (.int y), some (.int 3), some (.int z), none, none] [] M) → ∀ (r t : Nat), t + r = m → allIn (fun k => M.2 (o + 14) (16 * q + k)) (M.1 o 0) (2 * t) a → ZW w g 10 61 [some (.ref (w.2.2 o)), some (.int (nI q)), some (.int ln), some (.int (nI a)), some (.int (nI m)), some (.int y), some (.int 3), some (.int (nI (16 * q + a + 2 * t))), none, none] [] M := by
    intro q a m y hq ham K2 K r
    induction r with
    | zero =>
      intro t htr hal
      obtain rfl : t = m := by omega
      refine z_iload F dX8_seen_61 rfl ?_
      refine z_bipush (v := 16) F dX8_seen_63 (by decide) ?_
      refine z_iload_n F dX8_seen_65 rfl ?_
      refine z_imul F dX8_seen_66 ?_
      refine z_iload_n F dX8_seen_67 rfl ?_
      refine z_iadd F dX8_seen_68 ?_
      refine z_iconst (v := 2) F dX8_seen_69 (by decide) ?_
      refine z_iload F dX8_seen_70 rfl ?_
      refine z_imul F dX8_seen_72 ?_
      refine z_iadd F dX8_seen_73 ?_
      refine z_ic_ge (tgt := 116) F dX8_seen_74 (by decide) (fun h_74 => ?_) (fun h_74 => absurd h_74 (by simp only [n16, n2, nI_add]; exact Int32.not_lt.mpr (Int32.le_refl _)))
      exact K hal _
    | succ r ih =>
      intro t htr hal
      have ea : M.2 (o + 14) (16 * q + a + 2 * t) = M.2 (o + 14) (16 * q + (a + 2 * t)) := by rw [Nat.add_assoc]
      have eb : M.2 (o + 14) (16 * q + a + 2 * t + 1) = M.2 (o + 14) (16 * q + (a + 2 * t + 1)) := by rw [Nat.add_assoc, Nat.add_assoc, Nat.add_assoc]
      refine z_iload F dX8_seen_61 rfl ?_
      refine z_bipush (v := 16) F dX8_seen_63 (by decide) ?_
      refine z_iload_n F dX8_seen_65 rfl ?_
      refine z_imul F dX8_seen_66 ?_
      refine z_iload_n F dX8_seen_67 rfl ?_
      refine z_iadd F dX8_seen_68 ?_
      refine z_iconst (v := 2) F dX8_seen_69 (by decide) ?_
      refine z_iload F dX8_seen_70 rfl ?_
      refine z_imul F dX8_seen_72 ?_
      refine z_iadd F dX8_seen_73 ?_
      refine z_ic_ge (tgt := 116) F dX8_seen_74 (by decide) (fun h_74 => absurd h_74 (by simp only [n16, n2, nI_add]; exact nI_ge (by omega) (by omega))) (fun h_74 => ?_)
      refine z_aload_n F dX8_seen_77 rfl ?_
      refine z_aload_n F dX8_seen_78 rfl ?_
      refine zg_X8_items F (by with_reducible assumption) fl_X8_49 dX8_seen_79 (fun hk_79 => ?_)
      refine z_iload F dX8_seen_82 rfl ?_
      refine z_lald14n (q := (16*q+a+2*t)) F (by with_reducible assumption) (by first | with_reducible rfl | (simp only [n4, n2, n3, n5, n14, n16, na1, na2, na3, nI_add, nI_1, nI_pred]; done) | (simp only [n4, n2, n3, n5, n14, n16, na1, na2, na3, nI_add, nI_1, nI_pred, Nat.add_assoc, Nat.add_comm, Nat.add_left_comm]; done)) (by rw [hz14]; omega) dX8_seen_84 ?_
      refine z_callVi F (c_X8_isThing J hk hnt h10) zm_X8_isThing zv_X8_isThing ml_X8_89 (by with_reducible assumption) (by decide) rfl rfl rfl (Nat.le_of_ble_eq_true rfl) dX8_seen_85 (by omega) (fun r_85 M_85 h_85 => ?_)
      obtain ⟨e_85, rfl⟩ := h_85
      replace e_85 := Eq.symm e_85
      subst e_85
      refine z_if_eq (tgt := 107) F dX8_seen_88 (by decide) (fun h_88 => ?_) (fun h_88 => ?_)
      · replace h_88 := bI_0.mp h_88
        rw [ea] at h_88
        exact K2 (fun z => allIn_n z (show a ≤ a + 2 * t by omega) (by omega) h_88) _
      · replace h_88 := bI_1.mp h_88
        refine z_aload_n F dX8_seen_91 rfl ?_
        refine z_aload_n F dX8_seen_92 rfl ?_
        refine zg_X8_items F (by with_reducible assumption) fl_X8_49 dX8_seen_93 (fun hk_93 => ?_)
        refine z_iload F dX8_seen_96 rfl ?_
        refine z_iconst (v := 1) F dX8_seen_98 (by decide) ?_
        refine z_iadd F dX8_seen_99 ?_
        refine z_lald14n (q := ((16*q+a+2*t) + 1)) F (by with_reducible assumption) (by first | with_reducible rfl | (simp only [n4, n2, n3, n5, n14, n16, na1, na2, na3, nI_add, nI_1, nI_pred]; done) | (simp only [n4, n2, n3, n5, n14, n16, na1, na2, na3, nI_add, nI_1, nI_pred, Nat.add_assoc, Nat.add_comm, Nat.add_left_comm]; done)) (by rw [hz14]; omega) dX8_seen_100 ?_
        refine z_callVi F (c_X8_isThing J hk hnt h10) zm_X8_isThing zv_X8_isThing ml_X8_89 (by with_reducible assumption) (by decide) rfl rfl rfl (Nat.le_of_ble_eq_true rfl) dX8_seen_101 (by omega) (fun r_101 M_101 h_101 => ?_)
        obtain ⟨e_101, rfl⟩ := h_101
        replace e_101 := Eq.symm e_101
        subst e_101
        refine z_if_ne (tgt := 110) F dX8_seen_104 (by decide) (fun h_104 => ?_) (fun h_104 => ?_)
        · replace h_104 := bI_1.mp h_104
          refine z_iincc (c := 2) (lv' := [_, _, _, _, _, _, _, _, _, _]) F dX8_seen_110 rfl (by decide) (by decide) rfl rfl ?_
          refine z_goto (tgt := 61) F dX8_seen_113 (by decide) ?_
          rw [ea] at h_88
          rw [eb] at h_104
          have Q := ih (t + 1) (by omega) (allIn_2 t a hal h_88 h_104)
          rw [show 16 * q + a + 2 * (t + 1) = 16 * q + a + 2 * t + 2 by omega] at Q
          rw [show nI (16 * q + a + 2 * t) + 2 = nI (16 * q + a + 2 * t + 2) from nI_add _ 2]
          exact Q
        · replace h_104 := bI_0.mp h_104
          rw [eb] at h_104
          exact K2 (fun z => allIn_n z (show a ≤ a + 2 * t + 1 by omega) (by omega) h_104) _
  refine z_iload_n F dX8_seen_0 rfl ?_
  refine z_callSi F (c_X8_isSheet J) zm_X8_isSheet zst_X8_isSheet ml_X8_227 rfl rfl (Nat.le_of_ble_eq_true rfl) dX8_seen_1 (by omega) (fun r_1 M_1 h_1 => ?_)
  obtain ⟨e_1, rfl⟩ := h_1
  replace e_1 := Eq.symm e_1
  subst e_1
  refine z_if_eq (tgt := 27) F dX8_seen_4 (by decide) (fun h_4 => ?_) (fun h_4 => ?_)
  · replace h_4 := bI_0.mp h_4
    refine z_iconst (v := (-1)) F dX8_seen_27 (by decide) ?_
    refine z_iret F X dX8_seen_28 ?_
    exact ⟨rfl, Or.inl ⟨Or.inl (Or.inl (Classical.not_not.mp h_4)), rfl⟩⟩
  · replace h_4 := bI_1.mp h_4
    refine z_iload_n F dX8_seen_7 rfl ?_
    refine z_callSi F (c_X8_isLane J) zm_X8_isLane zst_X8_isLane ml_X8_230 rfl rfl (Nat.le_of_ble_eq_true rfl) dX8_seen_8 (by omega) (fun r_8 M_8 h_8 => ?_)
    obtain ⟨e_8, rfl⟩ := h_8
    replace e_8 := Eq.symm e_8
    subst e_8
    refine z_if_eq (tgt := 27) F dX8_seen_11 (by decide) (fun h_11 => ?_) (fun h_11 => ?_)
    · replace h_11 := bI_0.mp h_11
      refine z_iconst (v := (-1)) F dX8_seen_27 (by decide) ?_
      refine z_iret F X dX8_seen_28 ?_
      exact ⟨rfl, Or.inl ⟨Or.inl (Or.inr (Classical.not_not.mp h_11)), rfl⟩⟩
    · replace h_11 := bI_1.mp h_11
      refine z_iload F dX8_seen_14 rfl ?_
      refine z_i2l F dX8_seen_16 ?_
      refine z_lconst (v := 1) F dX8_seen_17 (by decide) ?_
      refine z_ldc2 F dX8_seen_18 cl_X8_233 ?_
      refine z_callSi F (d_X8_in J (a := 1) (b := 8) (by decide) (by decide)) zm_X8_in zst_X8_in ml_X8_72 rfl rfl (Nat.le_of_ble_eq_true rfl) dX8_seen_21 (by omega) (fun r_21 M_21 h_21 => ?_)
      obtain ⟨e_21, rfl⟩ := h_21
      replace e_21 := Eq.symm e_21
      subst e_21
      refine z_if_ne (tgt := 29) F dX8_seen_24 (by decide) (fun h_24 => ?_) (fun h_24 => ?_)
      · replace h_24 := bI_1.mp h_24
        obtain ⟨q, hq, rfl⟩ := s4_in h_4
        refine z_aload_n F dX8_seen_29 rfl ?_
        refine z_iload_n F dX8_seen_30 rfl ?_
        refine z_iload_n F dX8_seen_31 rfl ?_
        refine z_iload_n F dX8_seen_32 rfl ?_
        refine z_iconst (v := 2) F dX8_seen_33 (by decide) ?_
        refine z_iload F dX8_seen_34 rfl ?_
        refine z_imul F dX8_seen_36 ?_
        refine z_callVi F (c_X8_why J hk ho hq) zm_X8_why zv_X8_why ml_X8_235 (by with_reducible assumption) (by decide) rfl rfl rfl (Nat.le_of_ble_eq_true rfl) dX8_seen_37 (by omega) (fun r_37 M_37 h_37 => ?_)
        obtain ⟨e_37, rfl⟩ := h_37
        replace e_37 := Eq.symm e_37
        subst e_37
        refine z_istore (lv' := [_, _, _, _, _, _, _, _, _, _]) F dX8_seen_40 (by decide) rfl rfl ?_
        refine z_iload F dX8_seen_42 rfl ?_
        refine z_if_ge (tgt := 50) F dX8_seen_44 (by decide) (fun h_44 => ?_) (fun h_44 => ?_)
        · have hbad : ¬ (((nI q < 0 ∨ 3 < nI q) ∨ (ln < 0 ∨ 3 < ln)) ∨ (n < 1 ∨ 8 < n)) := fun z => z.elim (fun z => z.elim h_4 h_11) (by grind)
          obtain ⟨m, hm8, rfl⟩ := nI_of2 (M := 8) (n := 8) (x := n) (by decide) (by grind) (by grind)
          have h44 := nlt h_44
          have h45 := h44
          rw [n2] at h45
          obtain ⟨L, hL, hB⟩ := hS q hq
          obtain ⟨a, rfl, haL⟩ := why_ok2 (by omega) hB hL h45
          refine z_iconst (v := 3) F dX8_seen_50 (by decide) ?_
          refine z_istore (lv' := [_, _, _, _, _, _, _, _, _, _]) F dX8_seen_51 (by decide) rfl rfl ?_
          refine z_bipush (v := 16) F dX8_seen_53 (by decide) ?_
          refine z_iload_n F dX8_seen_55 rfl ?_
          refine z_imul F dX8_seen_56 ?_
          refine z_iload_n F dX8_seen_57 rfl ?_
          refine z_iadd F dX8_seen_58 ?_
          refine z_istore (lv' := [_, _, _, _, _, _, _, _, _, _]) F dX8_seen_59 (by decide) rfl rfl ?_
          have Q := key1 q a m (whyF (M.1 (o + 12) q) (M.1 (o + 13) q) ln (nI a) (2 * nI m)) hq (by omega) ?_ ?_ m 0 (by omega) trivial
          · rw [n16, nI_add]
            exact Q
          · intro hal lv
            refine z_bipush (v := -2) F dX8_seen_107 (by decide) ?_
            refine z_iret F X dX8_seen_109 ?_
            exact ⟨rfl, Or.inr ⟨hbad, q, hq, rfl, Or.inr ⟨h44, a, m, rfl, rfl, by omega, Or.inl ⟨hal, rfl⟩⟩⟩⟩
          · intro hal z
            refine z_bipush (v := 16) F dX8_seen_116 (by decide) ?_
            refine z_iload_n F dX8_seen_118 rfl ?_
            refine z_imul F dX8_seen_119 ?_
            refine z_iload_n F dX8_seen_120 rfl ?_
            refine z_iadd F dX8_seen_121 ?_
            refine z_istore (lv' := [_, _, _, _, _, _, _, _, _, _]) F dX8_seen_122 (by decide) rfl rfl ?_
            rw [n16, nI_add]
            refine key2 q a m _ hq (by omega) hal ?_ m 0 none none (by omega) rfl
            intro lv8 lv9
            refine z_iload F dX8_seen_226 rfl ?_
            refine z_iret F X dX8_seen_228 ?_
            exact ⟨rfl, Or.inr ⟨hbad, q, hq, rfl, Or.inr ⟨h44, a, m, rfl, rfl, by omega, Or.inr ⟨hal, rfl⟩⟩⟩⟩
        · refine z_iload F dX8_seen_47 rfl ?_
          refine z_iret F X dX8_seen_49 ?_
          exact ⟨rfl, Or.inr ⟨fun z => z.elim (fun z => z.elim h_4 h_11) (by grind), q, hq, rfl, Or.inl ⟨h_44, rfl⟩⟩⟩
      · replace h_24 := bI_0.mp h_24
        refine z_iconst (v := (-1)) F dX8_seen_27 (by decide) ?_
        refine z_iret F X dX8_seen_28 ?_
        exact ⟨rfl, Or.inl ⟨Or.inr (by grind), rfl⟩⟩
