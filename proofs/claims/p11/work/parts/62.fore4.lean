/-- the least milestone, looked for from behind -/
def lurS (Q : Nat → Int32) (x : Int32) (a : Nat) : Nat → Int32 → Int32
  | 0, f => f
  | n + 1, f => lurS Q x a n (if Q (a + n) = x then nI (a + n) else f)
theorem nI12 {m : Nat} (h : m < 13) : ¬ nI m < 0 := nI_pos (by omega)
theorem waitS_end (Q : Nat → Int32) (x : Int32) : ∀ (n a : Nat), a + n < 13 → waitS Q x (n + 1) a = if waitS Q x n a < 0 then (if Q (a + n) = x then nI (a + n) else -1) else waitS Q x n a := by
  intro n
  induction n with
  | zero =>
    intro a h
    show (if Q a = x then nI a else -1) = if (-1 : Int32) < 0 then (if Q (a + 0) = x then nI (a + 0) else -1) else -1
    rw [if_pos (by decide : (-1 : Int32) < 0)]
    rfl
  | succ n ih =>
    intro a h
    rw [waitS, ih (a + 1) (by omega)]
    conv => rhs; rw [waitS]
    by_cases e : Q a = x
    · rw [if_pos e, if_pos e, if_neg (nI12 (by omega))]
    · rw [if_neg e, if_neg e, show a + 1 + n = a + (n + 1) by omega]
theorem lurS_wait (Q : Nat → Int32) (x : Int32) (a : Nat) : ∀ (n : Nat) (f : Int32), a + n < 14 → lurS Q x a n f = if waitS Q x n a < 0 then f else waitS Q x n a := by
  intro n
  induction n with
  | zero => intro f _; rw [lurS, waitS, if_pos (by decide)]
  | succ n ih =>
    intro f h
    rw [lurS, ih _ (by omega), waitS_end Q x n a (by omega)]
    by_cases e1 : waitS Q x n a < 0
    · rw [if_pos e1, if_pos e1]
      by_cases e2 : Q (a + n) = x
      · rw [if_pos e2, if_pos e2, if_neg (nI12 (by omega))]
      · rw [if_neg e2, if_neg e2, if_pos (by decide)]
    · rw [if_neg e1, if_neg e1, if_neg e1]
def lurQ (rb th pe : zF1) (np a : Nat) (T : zF1) (k m : Nat) : Int32 := (homeM rb th pe np (nI m) 0 (12 - a) (va_up T 13 (nI k), -4)).1 13
def lurW (rb th pe : zF1) (np a nt : Nat) (T : zF1) (x : Int32) : Int32 × Int32 := waitL (wrt th) (fun k => whoR T (nI k) np) (fun k => waitS (lurQ rb th pe np a T k) x (12 - a) a) nt 0 (-4, -4)
theorem c_X8_lurk {l : Launch} {w : zE} (J : zJ w) {M : zM} {o nt np a : Nat} {x k : Int32} (hk : zk o = 8) (ho : o = 138) (ok : rOK M o nt np a) : zCi l w yX8_lurk cX8_lurk 9 (some .int) 7 [.ref (w.2.2 o), .int x, .int k] M (fun r M2 => zgf o M M2 ∧ r = if (0 ≤ x ∧ x < M.1 o 0) ∧ ¬ (k < 0 ∨ 1 < k) then (if whoR (M.1 (o + 3)) x np = -4 then -2 else if k = 0 then (lurW (rbM (M.1 o)) (M.1 (o + 1)) (M.1 (o + 2)) np a nt (M.1 (o + 3)) x).1 else (lurW (rbM (M.1 o)) (M.1 (o + 1)) (M.1 (o + 2)) np a nt (M.1 (o + 3)) x).2) else -1) := by
  obtain ⟨hz1, hz2, hz3, hz4, hz5, hz6, hz7, hz8, hz9, hz10, hz11, hz12, hz13, hz14, hz15⟩ := zn8 ho
  obtain ⟨hnt, h10, hnp, h8, kd, tv, ha, h12, hts⟩ := id ok
  refine zCi_of J zm_X8_lurk [some (.ref (w.2.2 o)), some (.int x), some (.int k), none, none, none, none, none, none] (Nat.le_of_ble_eq_true rfl) rfl (fun g hg F X => ?_)
  subst hg
  unfold lurW at X
  generalize hV : (fun k => whoR (M.1 (o + 3)) (nI k) np) = V at X
  generalize hS : (fun k => waitS (lurQ (rbM (M.1 o)) (M.1 (o + 1)) (M.1 (o + 2)) np a (M.1 (o + 3)) k) x (12 - a) a) = S at X
  generalize hr : waitL (wrt (M.1 (o + 1))) V S nt 0 (-4, -4) = r at X
  have inner : ∀ (i : Nat) (s : Int32 × Int32), i < nt → ∀ (R : Int32), (∀ (M' : zM) (x8 : Option Value), zgf o M M' → M'.1 (o + 8) = M.1 (o + 3) → zok [none, none, none, none, none, none, none, none, x8] 8 = true → ZW w g 9 168 [some (.ref (w.2.2 o)), some (.int x), some (.int k), some (.int s.1), some (.int s.2), some (.int (nI i)), some (.int 1), some (.int R), x8] [] M') → ∀ (n : Nat) (f : Int32) (M' : zM), a + n ≤ 12 → lurS (lurQ (rbM (M.1 o)) (M.1 (o + 1)) (M.1 (o + 2)) np a (M.1 (o + 3)) i) x a n f = R → zgf o M M' → M'.1 (o + 8) = M.1 (o + 3) → ZW w g 9 103 [some (.ref (w.2.2 o)), some (.int x), some (.int k), some (.int s.1), some (.int s.2), some (.int (nI i)), some (.int 1), some (.int f), some (.int (nI (a + n) - 1))] [] M' := by
    intro i s hi R K n
    induction n with
    | zero =>
      intro f M' han hR hf h8a
      have hR2 : f = R := hR
      subst hR2
      have hlt : ¬ nI a ≤ nI (a + 0) - 1 := by
        refine Int32.not_le.mpr (Int32.lt_iff_toInt_lt.mpr ?_)
        have h1 := pk_sub_toInt (a := a) (b := 1) (by omega) (by decide)
        have h2 : (nI (a + 0) - 1).toInt = (a : Int) - 1 := h1
        rw [h2, nI_toInt (by omega)]
        omega
      refine z_iload F dX8_lurk_103 rfl ?_
      refine z_aload_n F dX8_lurk_105 rfl ?_
      refine zg_X8_aside F (by with_reducible assumption) fl_X8_31 dX8_lurk_106 (fun hk_106 => ?_)
      refine z_iconst (v := 3) F dX8_lurk_109 (by decide) ?_
      refine z_iald10n (q := 3) F (by with_reducible assumption) (by decide) (by rw [hz8]; omega) dX8_lurk_110 ?_
      try simp only [h8a, ha]
      refine z_ic_lt (tgt := 168) F dX8_lurk_111 (by decide) (fun h_111 => ?_) (fun h_111 => absurd h_111 hlt)
      exact K M' _ hf h8a rfl
    | succ n ih =>
      intro f M' han hR hf h8a
      rw [lurS] at hR
      have e1 : nI (a + (n + 1)) - 1 = nI (a + n) := nI_pred (a + n)
      have e3 := hf.2.1 (o + 3) (by omega) (by omega) (by omega) (by omega)
      rw [e1]
      have hMi : zs (zs M' o 7 (nI (a + n))) (o + 3) 13 (nI i) = za (zs M' o 7 (nI (a + n))) (o + 3) (va_up (M.1 (o + 3)) 13 (nI i)) := by
        rw [zs_za (zs M' o 7 (nI (a + n))), zs_off _ (by omega), e3]
      have xg : zgx o M (za (zs M' o 7 (nI (a + n))) (o + 3) (va_up (M.1 (o + 3)) 13 (nI i))) := (hf.x.s (Or.inl rfl)).a (Or.inl rfl)
      have t3 : (za (zs M' o 7 (nI (a + n))) (o + 3) (va_up (M.1 (o + 3)) 13 (nI i))).1 (o + 3) = va_up (M.1 (o + 3)) 13 (nI i) := za_at _ _ _
      have t7 : (za (zs M' o 7 (nI (a + n))) (o + 3) (va_up (M.1 (o + 3)) 13 (nI i))).1 o 7 = nI (a + n) := by rw [za_off _ (by omega), zs_at, va_up_self]
      have t8 : (za (zs M' o 7 (nI (a + n))) (o + 3) (va_up (M.1 (o + 3)) 13 (nI i))).1 o 8 = 0 := by rw [za_off _ (by omega), zs_at, va_up_ne _ _ (by decide)]; exact hf.2.2.2
      have t88 : (za (zs M' o 7 (nI (a + n))) (o + 3) (va_up (M.1 (o + 3)) 13 (nI i))).1 (o + 8) = M.1 (o + 3) := by rw [za_off _ (by omega), zs_off _ (by omega), h8a]
      generalize hMM : za (zs M' o 7 (nI (a + n))) (o + 3) (va_up (M.1 (o + 3)) 13 (nI i)) = Mi at hMi xg t3 t7 t8 t88
      have hQ : (homeM (rbM (M.1 o)) (M.1 (o + 1)) (M.1 (o + 2)) np (nI (a + n)) 0 (12 - a) (va_up (M.1 (o + 3)) 13 (nI i), -4)).1 13 = lurQ (rbM (M.1 o)) (M.1 (o + 1)) (M.1 (o + 2)) np a (M.1 (o + 3)) i (a + n) := rfl
      refine z_iload F dX8_lurk_103 rfl ?_
      refine z_aload_n F dX8_lurk_105 rfl ?_
      refine zg_X8_aside F (by with_reducible assumption) fl_X8_31 dX8_lurk_106 (fun hk_106 => ?_)
      refine z_iconst (v := 3) F dX8_lurk_109 (by decide) ?_
      refine z_iald10n (q := 3) F (by with_reducible assumption) (by decide) (by rw [hz8]; omega) dX8_lurk_110 ?_
      try simp only [h8a, ha]
      refine z_ic_lt (tgt := 168) F dX8_lurk_111 (by decide) (fun h_111 => absurd h_111 (nlt (nI_le (by omega) (by omega)))) (fun h_111 => ?_)
      refine z_iload F dX8_lurk_114 rfl ?_
      refine z_if_eq (tgt := 168) F dX8_lurk_116 (by decide) (fun h_116 => absurd h_116 (by decide)) (fun h_116 => ?_)
      refine z_aload_n F dX8_lurk_119 rfl ?_
      refine z_iload F dX8_lurk_120 rfl ?_
      refine zp_X8_more F (by with_reducible assumption) fl_X8_186 dX8_lurk_122 ?_
      refine z_aload_n F dX8_lurk_125 rfl ?_
      refine zg_X8_now F (by with_reducible assumption) fl_X8_16 dX8_lurk_126 (fun hk_126 => ?_)
      refine z_bipush (v := 13) F dX8_lurk_129 (by decide) ?_
      refine z_iload F dX8_lurk_131 rfl ?_
      refine z_iast10n (q := 13) F (by with_reducible assumption) (by decide) (by rw [hz3]; omega) dX8_lurk_133 ?_
      rw [hMi]
      refine z_aload_n F dX8_lurk_134 rfl ?_
      refine z_callVv F (d_home_at J hk ho ok xg (by rw [t3]; exact tv9_up5 tv 8 (Or.inr ⟨i, hi, rfl⟩)) (by rw [t3, va_up_ne _ _ (by decide)]; exact ha)) zm_X8_goesHome zv_X8_goesHome ml_X8_198 (by with_reducible assumption) (by decide) rfl rfl rfl (Nat.le_of_ble_eq_true rfl) dX8_lurk_135 (by omega) (fun M_135 h_135 => ?_)
      replace h_135 := Eq.symm h_135
      subst h_135
      rw [t3, t7, t8]
      refine z_aload_n F dX8_lurk_138 rfl ?_
      refine zg_X8_now F (by with_reducible assumption) fl_X8_16 dX8_lurk_139 (fun hk_139 => ?_)
      refine z_bipush (v := 13) F dX8_lurk_142 (by decide) ?_
      refine z_iald10n (q := 13) F (by with_reducible assumption) (by decide) (by rw [hz3]; omega) dX8_lurk_144 ?_
      rw [zr_T, hQ]
      refine z_iload_n F dX8_lurk_145 rfl ?_
      refine z_ic_ne (tgt := 154) F dX8_lurk_146 (by decide) (fun h_146 => ?_) (fun h_146 => ?_)
      · try simp only [h8a, ha] at h_146
        refine z_iload F dX8_lurk_154 rfl ?_
        refine z_istore (lv' := [_, _, _, _, _, _, _, _, _]) F dX8_lurk_156 (by decide) rfl rfl ?_
        refine z_aload_n F dX8_lurk_158 rfl ?_
        refine z_callVv F (c_X8_backs J hk ho) zm_X8_backs zv_X8_backs ml_X8_201 (by with_reducible assumption) (by decide) rfl rfl rfl (Nat.le_of_ble_eq_true rfl) dX8_lurk_159 (by omega) (fun M_159 h_159 => ?_)
        replace h_159 := Eq.symm h_159
        subst h_159
        refine z_iincc (c := (-1)) (lv' := [_, _, _, _, _, _, _, _, _]) F dX8_lurk_162 rfl (by decide) (by decide) rfl rfl ?_
        refine z_goto (tgt := 103) F dX8_lurk_165 (by decide) ?_
        rw [if_neg h_146] at hR
        rw [show nI (a + n) + -1 = nI (a + n) - 1 from (Int32.sub_eq_add_neg _ _).symm]
        refine ih _ _ (by omega) hR (zgf.back xg.r (by rw [zr8, t88])) ?_
        rw [zs_off _ (by omega), zs_off _ (by omega), za_off _ (by omega), zr8, t88]
      · try simp only [h8a, ha] at h_146
        refine z_iload F dX8_lurk_149 rfl ?_
        refine z_goto (tgt := 156) F dX8_lurk_151 (by decide) ?_
        refine z_istore (lv' := [_, _, _, _, _, _, _, _, _]) F dX8_lurk_156 (by decide) rfl rfl ?_
        refine z_aload_n F dX8_lurk_158 rfl ?_
        refine z_callVv F (c_X8_backs J hk ho) zm_X8_backs zv_X8_backs ml_X8_201 (by with_reducible assumption) (by decide) rfl rfl rfl (Nat.le_of_ble_eq_true rfl) dX8_lurk_159 (by omega) (fun M_159 h_159 => ?_)
        replace h_159 := Eq.symm h_159
        subst h_159
        refine z_iincc (c := (-1)) (lv' := [_, _, _, _, _, _, _, _, _]) F dX8_lurk_162 rfl (by decide) (by decide) rfl rfl ?_
        refine z_goto (tgt := 103) F dX8_lurk_165 (by decide) ?_
        rw [if_pos h_146] at hR
        rw [show nI (a + n) + -1 = nI (a + n) - 1 from (Int32.sub_eq_add_neg _ _).symm]
        refine ih _ _ (by omega) hR (zgf.back xg.r (by rw [zr8, t88])) ?_
        rw [zs_off _ (by omega), zs_off _ (by omega), za_off _ (by omega), zr8, t88]
  have key : ((0 ≤ x ∧ x < M.1 o 0) ∧ ¬ (k < 0 ∨ 1 < k)) → ¬ whoR (M.1 (o + 3)) x np = -4 → ∀ (j i : Nat) (s : Int32 × Int32) (x6 x7 x8 : Option Value) (M' : zM), i + j = nt → zok [none, none, none, none, none, none, x6, x7, x8] 6 = true → zok [none, none, none, none, none, none, x6, x7, x8] 7 = true → zok [none, none, none, none, none, none, x6, x7, x8] 8 = true → vx nt s.1 → zgf o M M' → M'.1 (o + 8) = M.1 (o + 3) → waitL (wrt (M.1 (o + 1))) V S j i s = r → ZW w g 9 48 [some (.ref (w.2.2 o)), some (.int x), some (.int k), some (.int s.1), some (.int s.2), some (.int (nI i)), x6, x7, x8] [] M' := by
    intro hc hw j
    induction j with
    | zero =>
      intro i s x6 x7 x8 M' hij h6 h7 h8z hv hf h8a hs
      have e : i = nt := by omega
      subst e
      have hs2 : s = r := hs
      subst hs2
      have e0 := hf.2.2.1 0 (by decide) (by decide) (by decide)
      refine z_iload F dX8_lurk_48 rfl ?_
      refine z_aload_n F dX8_lurk_50 rfl ?_
      refine zg_X8_things F (by with_reducible assumption) fl_X8_69 dX8_lurk_51 ?_
      try simp only [e0, hnt]
      refine z_ic_ge (tgt := 204) F dX8_lurk_54 (by decide) (fun h_54 => ?_) (fun h_54 => absurd h_54 (nlt (Int32.le_refl _)))
      refine z_iload_n F dX8_lurk_204 rfl ?_
      refine z_if_ne (tgt := 212) F dX8_lurk_205 (by decide) (fun h_205 => ?_) (fun h_205 => ?_)
      · try simp only [e0, hnt] at h_205
        refine z_iload F dX8_lurk_212 rfl ?_
        refine z_iret F X dX8_lurk_214 ?_
        exact ⟨hf, by rw [if_pos hc, if_neg hw, if_neg h_205]⟩
      · try simp only [e0, hnt] at h_205
        refine z_iload_n F dX8_lurk_208 rfl ?_
        refine z_goto (tgt := 214) F dX8_lurk_209 (by decide) ?_
        refine z_iret F X dX8_lurk_214 ?_
        exact ⟨hf, by rw [if_pos hc, if_neg hw, if_pos h_205]⟩
    | succ j ih =>
      intro i s x6 x7 x8 M' hij h6 h7 h8z hv hf h8a hs
      have e0 := hf.2.2.1 0 (by decide) (by decide) (by decide)
      have e1 := hf.2.2.1 1 (by decide) (by decide) (by decide)
      have e3 := hf.2.1 (o + 3) (by omega) (by omega) (by omega) (by omega)
      have et := hf.2.1 (o + 1) (by omega) (by omega) (by omega) (by omega)
      have hVi : V i = whoR (M.1 (o + 3)) (nI i) np := by rw [← hV]
      have hSi : S i = waitS (lurQ (rbM (M.1 o)) (M.1 (o + 1)) (M.1 (o + 2)) np a (M.1 (o + 3)) i) x (12 - a) a := by rw [← hS]
      rw [waitL] at hs
      have fin : ∀ (f q6 : Int32) (M'' : zM) (x8 : Option Value), waitL (wrt (M.1 (o + 1))) V S j (i + 1) (if f = -4 then s else (nI i, f)) = r → zgf o M M'' → M''.1 (o + 8) = M.1 (o + 3) → zok [none, none, none, none, none, none, none, none, x8] 8 = true → ZW w g 9 168 [some (.ref (w.2.2 o)), some (.int x), some (.int k), some (.int s.1), some (.int s.2), some (.int (nI i)), some (.int q6), some (.int f), x8] [] M'' := by
        intro f q6 M'' x8 hw2 hf2 h82 hz8
        refine z_iload F dX8_lurk_168 rfl ?_
        refine z_bipush (v := (-4)) F dX8_lurk_170 (by decide) ?_
        refine z_ic_ne (tgt := 179) F dX8_lurk_172 (by decide) (fun h_172 => ?_) (fun h_172 => ?_)
        · refine z_iload F dX8_lurk_179 rfl ?_
          refine z_istore_n (lv' := [_, _, _, _, _, _, _, _, _]) F dX8_lurk_181 (by decide) rfl rfl ?_
          refine z_iload F dX8_lurk_182 rfl ?_
          refine z_bipush (v := (-4)) F dX8_lurk_184 (by decide) ?_
          refine z_ic_ne (tgt := 194) F dX8_lurk_186 (by decide) (fun h_186 => ?_) (fun h_186 => absurd h_186 h_172)
          refine z_iload F dX8_lurk_194 rfl ?_
          refine z_istore (lv' := [_, _, _, _, _, _, _, _, _]) F dX8_lurk_196 (by decide) rfl rfl ?_
          refine z_iincc (c := 1) (lv' := [_, _, _, _, _, _, _, _, _]) F dX8_lurk_198 rfl (by decide) (by decide) rfl rfl ?_
          refine z_goto (tgt := 48) F dX8_lurk_201 (by decide) ?_
          rw [if_neg h_172] at hw2
          rw [nI_1]
          exact ih (i + 1) (nI i, f) _ _ _ M'' (by omega) rfl rfl hz8 (Or.inr ⟨i, by omega, rfl⟩) hf2 h82 hw2
        · refine z_iload_n F dX8_lurk_175 rfl ?_
          refine z_goto (tgt := 181) F dX8_lurk_176 (by decide) ?_
          refine z_istore_n (lv' := [_, _, _, _, _, _, _, _, _]) F dX8_lurk_181 (by decide) rfl rfl ?_
          refine z_iload F dX8_lurk_182 rfl ?_
          refine z_bipush (v := (-4)) F dX8_lurk_184 (by decide) ?_
          refine z_ic_ne (tgt := 194) F dX8_lurk_186 (by decide) (fun h_186 => absurd h_186 (not_not_intro h_172)) (fun h_186 => ?_)
          refine z_iload F dX8_lurk_189 rfl ?_
          refine z_goto (tgt := 196) F dX8_lurk_191 (by decide) ?_
          refine z_istore (lv' := [_, _, _, _, _, _, _, _, _]) F dX8_lurk_196 (by decide) rfl rfl ?_
          refine z_iincc (c := 1) (lv' := [_, _, _, _, _, _, _, _, _]) F dX8_lurk_198 rfl (by decide) (by decide) rfl rfl ?_
          refine z_goto (tgt := 48) F dX8_lurk_201 (by decide) ?_
          rw [if_pos h_172] at hw2
          rw [nI_1]
          exact ih (i + 1) s _ _ _ M'' (by omega) rfl rfl hz8 hv hf2 h82 hw2
      have no : ¬ ((s.1 = -4 ∨ wrt (M.1 (o + 1)) (nI i) < wrt (M.1 (o + 1)) s.1) ∧ V i = -4) → ZW w g 9 103 [some (.ref (w.2.2 o)), some (.int x), some (.int k), some (.int s.1), some (.int s.2), some (.int (nI i)), some (.int 0), some (.int (-4)), some (.int 11)] [] M' := by
        intro hn
        rw [if_neg hn] at hs
        refine z_iload F dX8_lurk_103 rfl ?_
        refine z_aload_n F dX8_lurk_105 rfl ?_
        refine zg_X8_aside F (by with_reducible assumption) fl_X8_31 dX8_lurk_106 (fun hk_106 => ?_)
        refine z_iconst (v := 3) F dX8_lurk_109 (by decide) ?_
        refine z_iald10n (q := 3) F (by with_reducible assumption) (by decide) (by rw [hz8]; omega) dX8_lurk_110 ?_
        refine z_ic_lt (tgt := 168) F dX8_lurk_111 (by decide) (fun h_111 => ?_) (fun h_111 => ?_)
        · exact fin (-4) 0 M' _ (by rw [if_pos rfl]; exact hs) hf h8a rfl
        · refine z_iload F dX8_lurk_114 rfl ?_
          refine z_if_eq (tgt := 168) F dX8_lurk_116 (by decide) (fun h_116 => ?_) (fun h_116 => absurd h_116 (by decide))
          exact fin (-4) 0 M' _ (by rw [if_pos rfl]; exact hs) hf h8a rfl
      have yes : ((s.1 = -4 ∨ wrt (M.1 (o + 1)) (nI i) < wrt (M.1 (o + 1)) s.1) ∧ V i = -4) → ZW w g 9 103 [some (.ref (w.2.2 o)), some (.int x), some (.int k), some (.int s.1), some (.int s.2), some (.int (nI i)), some (.int 1), some (.int (-4)), some (.int 11)] [] M' := by
        intro hy
        rw [if_pos hy] at hs
        have q := inner i s (by omega) _ (fun M'' x8 q1 q2 q3 => fin _ 1 M'' x8 (by
          rw [lurS_wait _ _ _ _ _ (by omega), ← hSi]
          by_cases e : S i < 0
          · rw [if_pos e] at hs
            rw [if_pos e, if_pos rfl]
            exact hs
          · rw [if_neg e] at hs
            rw [if_neg e, if_neg (fun e2 => e (by rw [e2]; decide))]
            exact hs) q1 q2 q3) (12 - a) (-4) M' (by omega) rfl hf h8a
        rw [show a + (12 - a) = 12 by omega, show nI 12 - 1 = 11 from by decide] at q
        exact q
      refine z_iload F dX8_lurk_48 rfl ?_
      refine z_aload_n F dX8_lurk_50 rfl ?_
      refine zg_X8_things F (by with_reducible assumption) fl_X8_69 dX8_lurk_51 ?_
      try simp only [e0, hnt]
      refine z_ic_ge (tgt := 204) F dX8_lurk_54 (by decide) (fun h_54 => absurd h_54 (nle (nI_lt (by omega) (by omega)))) (fun h_54 => ?_)
      refine z_aload_n F dX8_lurk_57 rfl ?_
      refine z_iload F dX8_lurk_58 rfl ?_
      refine z_callVi F (c_X8_who J hk ho (np := np) (by rw [e1]; exact hnp) h8) zm_X8_who zv_X8_who ml_X8_95 (by with_reducible assumption) (by decide) rfl rfl rfl (Nat.le_of_ble_eq_true rfl) dX8_lurk_60 (by omega) (fun r_60 M_60 h_60 => ?_)
      obtain ⟨e_60, rfl⟩ := h_60
      replace e_60 := Eq.symm e_60
      subst e_60
      rw [e3]
      refine z_bipush (v := (-4)) F dX8_lurk_63 (by decide) ?_
      refine z_ic_ne (tgt := 92) F dX8_lurk_65 (by decide) (fun h_65 => ?_) (fun h_65 => ?_)
      · try simp only [e0, hnt] at h_65
        refine z_iconst (v := 0) F dX8_lurk_92 (by decide) ?_
        refine z_istore (lv' := [_, _, _, _, _, _, _, _, _]) F dX8_lurk_93 (by decide) rfl rfl ?_
        refine z_bipush (v := (-4)) F dX8_lurk_95 (by decide) ?_
        refine z_istore (lv' := [_, _, _, _, _, _, _, _, _]) F dX8_lurk_97 (by decide) rfl rfl ?_
        refine z_bipush (v := 11) F dX8_lurk_99 (by decide) ?_
        refine z_istore (lv' := [_, _, _, _, _, _, _, _, _]) F dX8_lurk_101 (by decide) rfl rfl ?_
        exact no (fun q => h_65 (hVi.symm.trans q.2))
      · try simp only [e0, hnt] at h_65
        refine z_iload_n F dX8_lurk_68 rfl ?_
        refine z_bipush (v := (-4)) F dX8_lurk_69 (by decide) ?_
        refine z_ic_eq (tgt := 88) F dX8_lurk_71 (by decide) (fun h_71 => ?_) (fun h_71 => ?_)
        · try simp only [e0, hnt] at h_71
          refine z_iconst (v := 1) F dX8_lurk_88 (by decide) ?_
          refine z_goto (tgt := 93) F dX8_lurk_89 (by decide) ?_
          refine z_istore (lv' := [_, _, _, _, _, _, _, _, _]) F dX8_lurk_93 (by decide) rfl rfl ?_
          refine z_bipush (v := (-4)) F dX8_lurk_95 (by decide) ?_
          refine z_istore (lv' := [_, _, _, _, _, _, _, _, _]) F dX8_lurk_97 (by decide) rfl rfl ?_
          refine z_bipush (v := 11) F dX8_lurk_99 (by decide) ?_
          refine z_istore (lv' := [_, _, _, _, _, _, _, _, _]) F dX8_lurk_101 (by decide) rfl rfl ?_
          exact yes ⟨Or.inl h_71, hVi.trans h_65⟩
        · try simp only [e0, hnt] at h_71
          refine z_aload_n F dX8_lurk_74 rfl ?_
          refine z_iload F dX8_lurk_75 rfl ?_
          refine z_callVi F (c_X8_worth J hk ho (Or.inr ⟨i, by omega, rfl⟩) h10) zm_X8_worth zv_X8_worth ml_X8_173 (by with_reducible assumption) (by decide) rfl rfl rfl (Nat.le_of_ble_eq_true rfl) dX8_lurk_77 (by omega) (fun r_77 M_77 h_77 => ?_)
          obtain ⟨e_77, rfl⟩ := h_77
          replace e_77 := Eq.symm e_77
          subst e_77
          refine z_aload_n F dX8_lurk_80 rfl ?_
          refine z_iload_n F dX8_lurk_81 rfl ?_
          refine z_callVi F (c_X8_worth J hk ho hv h10) zm_X8_worth zv_X8_worth ml_X8_173 (by with_reducible assumption) (by decide) rfl rfl rfl (Nat.le_of_ble_eq_true rfl) dX8_lurk_82 (by omega) (fun r_82 M_82 h_82 => ?_)
          obtain ⟨e_82, rfl⟩ := h_82
          replace e_82 := Eq.symm e_82
          subst e_82
          rw [et]
          refine z_ic_ge (tgt := 92) F dX8_lurk_85 (by decide) (fun h_85 => ?_) (fun h_85 => ?_)
          · try simp only [e0, hnt] at h_85
            refine z_iconst (v := 0) F dX8_lurk_92 (by decide) ?_
            refine z_istore (lv' := [_, _, _, _, _, _, _, _, _]) F dX8_lurk_93 (by decide) rfl rfl ?_
            refine z_bipush (v := (-4)) F dX8_lurk_95 (by decide) ?_
            refine z_istore (lv' := [_, _, _, _, _, _, _, _, _]) F dX8_lurk_97 (by decide) rfl rfl ?_
            refine z_bipush (v := 11) F dX8_lurk_99 (by decide) ?_
            refine z_istore (lv' := [_, _, _, _, _, _, _, _, _]) F dX8_lurk_101 (by decide) rfl rfl ?_
            exact no (fun q => q.1.elim h_71 (Int32.not_lt.mpr h_85))
          · try simp only [e0, hnt] at h_85
            refine z_iconst (v := 1) F dX8_lurk_88 (by decide) ?_
            refine z_goto (tgt := 93) F dX8_lurk_89 (by decide) ?_
            refine z_istore (lv' := [_, _, _, _, _, _, _, _, _]) F dX8_lurk_93 (by decide) rfl rfl ?_
            refine z_bipush (v := (-4)) F dX8_lurk_95 (by decide) ?_
            refine z_istore (lv' := [_, _, _, _, _, _, _, _, _]) F dX8_lurk_97 (by decide) rfl rfl ?_
            refine z_bipush (v := 11) F dX8_lurk_99 (by decide) ?_
            refine z_istore (lv' := [_, _, _, _, _, _, _, _, _]) F dX8_lurk_101 (by decide) rfl rfl ?_
            exact yes ⟨Or.inr h_85, hVi.trans h_65⟩
  refine z_aload_n F dX8_lurk_0 rfl ?_
  refine z_iload_n F dX8_lurk_1 rfl ?_
  refine z_i2l F dX8_lurk_2 ?_
  refine z_callVi F (d_X8_isThing J hk hnt h10) zm_X8_isThing zv_X8_isThing ml_X8_89 (by with_reducible assumption) (by decide) rfl rfl rfl (Nat.le_of_ble_eq_true rfl) dX8_lurk_3 (by omega) (fun r_3 M_3 h_3 => ?_)
  obtain ⟨e_3, rfl⟩ := h_3
  replace e_3 := Eq.symm e_3
  subst e_3
  refine z_if_eq (tgt := 19) F dX8_lurk_6 (by decide) (fun h_6 => ?_) (fun h_6 => ?_)
  · replace h_6 := bI_0.mp h_6
    refine z_iconst (v := (-1)) F dX8_lurk_19 (by decide) ?_
    refine z_iret F X dX8_lurk_20 ?_
    exact ⟨zgf.rf hts, (if_neg (by grind)).symm⟩
  · replace h_6 := bI_1.mp h_6
    refine z_iload_n F dX8_lurk_9 rfl ?_
    refine z_i2l F dX8_lurk_10 ?_
    refine z_lconst (v := 0) F dX8_lurk_11 (by decide) ?_
    refine z_lconst (v := 1) F dX8_lurk_12 (by decide) ?_
    refine z_callSi F (d_X8_in J (a := 0) (b := 1) (by decide) (by decide)) zm_X8_in zst_X8_in ml_X8_72 rfl rfl (Nat.le_of_ble_eq_true rfl) dX8_lurk_13 (by omega) (fun r_13 M_13 h_13 => ?_)
    obtain ⟨e_13, rfl⟩ := h_13
    replace e_13 := Eq.symm e_13
    subst e_13
    refine z_if_ne (tgt := 21) F dX8_lurk_16 (by decide) (fun h_16 => ?_) (fun h_16 => ?_)
    · replace h_16 := bI_1.mp h_16
      refine z_aload_n F dX8_lurk_21 rfl ?_
      refine z_iload_n F dX8_lurk_22 rfl ?_
      refine z_callVi F (c_X8_who J hk ho hnp h8) zm_X8_who zv_X8_who ml_X8_95 (by with_reducible assumption) (by decide) rfl rfl rfl (Nat.le_of_ble_eq_true rfl) dX8_lurk_23 (by omega) (fun r_23 M_23 h_23 => ?_)
      obtain ⟨e_23, rfl⟩ := h_23
      replace e_23 := Eq.symm e_23
      subst e_23
      refine z_bipush (v := (-4)) F dX8_lurk_26 (by decide) ?_
      refine z_ic_ne (tgt := 34) F dX8_lurk_28 (by decide) (fun h_28 => ?_) (fun h_28 => ?_)
      · refine z_aload_n F dX8_lurk_34 rfl ?_
        refine z_callVv F (c_X8_asides J hk ho) zm_X8_asides zv_X8_asides ml_X8_195 (by with_reducible assumption) (by decide) rfl rfl rfl (Nat.le_of_ble_eq_true rfl) dX8_lurk_35 (by omega) (fun M_35 h_35 => ?_)
        replace h_35 := Eq.symm h_35
        subst h_35
        refine z_bipush (v := (-4)) F dX8_lurk_38 (by decide) ?_
        refine z_istore_n (lv' := [_, _, _, _, _, _, _, _, _]) F dX8_lurk_40 (by decide) rfl rfl ?_
        refine z_bipush (v := (-4)) F dX8_lurk_41 (by decide) ?_
        refine z_istore (lv' := [_, _, _, _, _, _, _, _, _]) F dX8_lurk_43 (by decide) rfl rfl ?_
        refine z_iconst (v := 0) F dX8_lurk_45 (by decide) ?_
        refine z_istore (lv' := [_, _, _, _, _, _, _, _, _]) F dX8_lurk_46 (by decide) rfl rfl ?_
        refine key ⟨h_6, by grind⟩ h_28 nt 0 (-4, -4) none none none _ (by omega) rfl rfl rfl (Or.inl rfl) ⟨rfl, fun b a1 a2 a3 a4 => za_off _ a2, fun q a1 a2 a3 => by rw [za_off _ (by omega)], by rw [za_off _ (by omega)]; exact hts⟩ (za_at _ _ _) hr
      · refine z_bipush (v := (-2)) F dX8_lurk_31 (by decide) ?_
        refine z_iret F X dX8_lurk_33 ?_
        exact ⟨zgf.rf hts, by rw [if_pos ⟨h_6, by grind⟩, if_pos h_28]⟩
    · replace h_16 := bI_0.mp h_16
      refine z_iconst (v := (-1)) F dX8_lurk_19 (by decide) ?_
      refine z_iret F X dX8_lurk_20 ?_
      exact ⟨zgf.rf hts, (if_neg (by grind)).symm⟩
