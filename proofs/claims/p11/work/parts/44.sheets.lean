/-- what is wrong with a range of a sheet, or 0 -/
def rowF (B : zF1) (ln i n : Int32) : Int32 := if B 0 = 0 then -11 else if ¬ B 1 = ln then -12 else if 0 ≤ i ∧ 0 ≤ n ∧ n ≤ B 2 ∧ i ≤ B 2 - n then 0 else -13
def rowS (M : zM) (o : Nat) (x ln i n : Int32) : Int32 := if (x < 0 ∨ 3 < x) ∨ (ln < 0 ∨ 3 < ln) then -1 else rowF (M.1 (o + 129 + 1 + 2 * x.toNatClampNeg)) ln i n
theorem in4 {x : Int32} (h : ¬ (x < 0 ∨ 3 < x)) : vp_in x 4 := vpl 4 (by decide) (by grind)
theorem c_X7_rowFault {l : Launch} {w : zE} (J : zJ w) {M : zM} {o : Nat} {x ln i n : Int32} (hk : zk o = 7) : zCi l w yX7_rowFault cX7_rowFault 6 (some .int) 1 [.ref (w.2.2 o), .int x, .int ln, .int i, .int n] M (fun r M2 => M2 = M ∧ r = rowS M o x ln i n) := by
  refine zCi_of J zm_X7_rowFault [some (.ref (w.2.2 o)), some (.int x), some (.int ln), some (.int i), some (.int n), none] (Nat.le_of_ble_eq_true rfl) rfl (fun g hg F X => ?_)
  subst hg
  refine z_iload_n F dX7_rowFault_0 rfl ?_
  refine z_iconst (v := 3) F dX7_rowFault_1 (by decide) ?_
  refine z_callSi F (c_X7_isNot J) zm_X7_isNot zst_X7_isNot ml_X7_40 rfl rfl (Nat.le_of_ble_eq_true rfl) dX7_rowFault_2 (by omega) (fun r_2 M_2 h_2 => ?_)
  obtain ⟨e_2, rfl⟩ := h_2
  replace e_2 := Eq.symm e_2
  subst e_2
  refine z_if_ne (tgt := 16) F dX7_rowFault_5 (by decide) (fun h_5 => ?_) (fun h_5 => ?_)
  · replace h_5 := bI_1.mp h_5
    refine z_iconst (v := (-1)) F dX7_rowFault_16 (by decide) ?_
    refine z_iret F X dX7_rowFault_17 ?_
    refine ⟨rfl, ?_⟩
    unfold rowS
    first | exact (if_pos (Or.inl h_5)).symm | exact (if_pos (Or.inr h_13)).symm
  · replace h_5 := bI_0.mp h_5
    refine z_iload_n F dX7_rowFault_8 rfl ?_
    refine z_iconst (v := 3) F dX7_rowFault_9 (by decide) ?_
    refine z_callSi F (c_X7_isNot J) zm_X7_isNot zst_X7_isNot ml_X7_40 rfl rfl (Nat.le_of_ble_eq_true rfl) dX7_rowFault_10 (by omega) (fun r_10 M_10 h_10 => ?_)
    obtain ⟨e_10, rfl⟩ := h_10
    replace e_10 := Eq.symm e_10
    subst e_10
    refine z_if_eq (tgt := 18) F dX7_rowFault_13 (by decide) (fun h_13 => ?_) (fun h_13 => ?_)
    · replace h_13 := bI_0.mp h_13
      refine z_aload_n F dX7_rowFault_18 rfl ?_
      refine zg_X7_sheets F (by with_reducible assumption) fl_X7_35 dX7_rowFault_19 (fun hk_19 => ?_)
      refine z_iload_n F dX7_rowFault_22 rfl ?_
      refine z_aald15 F (by with_reducible assumption) (in4 h_5) dX7_rowFault_23 (fun hk_23 => ?_)
      refine z_astore (lv' := [_, _, _, _, _, _]) F dX7_rowFault_24 (by decide) rfl rfl ?_
      refine z_aload F dX7_rowFault_26 rfl ?_
      refine zg_X2_isThere F (by with_reducible assumption) fl_X7_255 dX7_rowFault_28 ?_
      refine z_if_ne (tgt := 37) F dX7_rowFault_31 (by decide) (fun h_31 => ?_) (fun h_31 => ?_)
      · refine z_aload F dX7_rowFault_37 rfl ?_
        refine zg_X2_lane F (by with_reducible assumption) fl_X7_259 dX7_rowFault_39 ?_
        refine z_iload_n F dX7_rowFault_42 rfl ?_
        refine z_ic_eq (tgt := 49) F dX7_rowFault_43 (by decide) (fun h_43 => ?_) (fun h_43 => ?_)
        · refine z_aload F dX7_rowFault_49 rfl ?_
          refine z_iload_n F dX7_rowFault_51 rfl ?_
          refine z_iload F dX7_rowFault_52 rfl ?_
          refine z_callVi F (c_X2_hasRange J (by with_reducible assumption)) zm_X2_hasRange zv_X2_hasRange ml_X7_262 (by with_reducible assumption) (by decide) rfl rfl rfl (Nat.le_of_ble_eq_true rfl) dX7_rowFault_54 (by omega) (fun r_54 M_54 h_54 => ?_)
          obtain ⟨e_54, rfl⟩ := h_54
          replace e_54 := Eq.symm e_54
          subst e_54
          refine z_if_eq (tgt := 64) F dX7_rowFault_57 (by decide) (fun h_57 => ?_) (fun h_57 => ?_)
          · replace h_57 := bI_0.mp h_57
            refine z_bipush (v := (-13)) F dX7_rowFault_64 (by decide) ?_
            refine z_iret F X dX7_rowFault_66 ?_
            refine ⟨rfl, ?_⟩
            unfold rowS rowF
            rw [if_neg (fun q => q.elim h_5 h_13), if_neg h_31, if_neg (not_not_intro h_43), if_neg h_57]
          · replace h_57 := bI_1.mp h_57
            refine z_iconst (v := 0) F dX7_rowFault_60 (by decide) ?_
            refine z_goto (tgt := 66) F dX7_rowFault_61 (by decide) ?_
            refine z_iret F X dX7_rowFault_66 ?_
            refine ⟨rfl, ?_⟩
            unfold rowS rowF
            rw [if_neg (fun q => q.elim h_5 h_13), if_neg h_31, if_neg (not_not_intro h_43), if_pos h_57]
        · refine z_bipush (v := (-12)) F dX7_rowFault_46 (by decide) ?_
          refine z_iret F X dX7_rowFault_48 ?_
          refine ⟨rfl, ?_⟩
          unfold rowS rowF
          rw [if_neg (fun q => q.elim h_5 h_13), if_neg h_31, if_pos h_43]
      · refine z_bipush (v := (-11)) F dX7_rowFault_34 (by decide) ?_
        refine z_iret F X dX7_rowFault_36 ?_
        refine ⟨rfl, ?_⟩
        unfold rowS rowF
        rw [if_neg (fun q => q.elim h_5 h_13), if_pos h_31]
    · replace h_13 := bI_1.mp h_13
      refine z_iconst (v := (-1)) F dX7_rowFault_16 (by decide) ?_
      refine z_iret F X dX7_rowFault_17 ?_
      refine ⟨rfl, ?_⟩
      unfold rowS
      first | exact (if_pos (Or.inl h_5)).symm | exact (if_pos (Or.inr h_13)).symm
theorem rowS_ok {M : zM} {o : Nat} {x ln i n : Int32} (h : ¬ rowS M o x ln i n < 0) : ¬ (x < 0 ∨ 3 < x) ∧ ¬ (ln < 0 ∨ 3 < ln) ∧ ¬ M.1 (o + 129 + 1 + 2 * x.toNatClampNeg) 0 = 0 ∧ M.1 (o + 129 + 1 + 2 * x.toNatClampNeg) 1 = ln ∧ 0 ≤ i ∧ 0 ≤ n ∧ n ≤ M.1 (o + 129 + 1 + 2 * x.toNatClampNeg) 2 ∧ i ≤ M.1 (o + 129 + 1 + 2 * x.toNatClampNeg) 2 - n ∧ rowS M o x ln i n = 0 := by
  unfold rowS rowF at *
  by_cases h1 : (x < 0 ∨ 3 < x) ∨ (ln < 0 ∨ 3 < ln)
  · rw [if_pos h1] at h; exact absurd (by decide) h
  rw [if_neg h1] at h ⊢
  by_cases h2 : M.1 (o + 129 + 1 + 2 * x.toNatClampNeg) 0 = 0
  · rw [if_pos h2] at h; exact absurd (by decide) h
  rw [if_neg h2] at h ⊢
  by_cases h3 : M.1 (o + 129 + 1 + 2 * x.toNatClampNeg) 1 = ln
  · rw [if_neg (not_not_intro h3)] at h ⊢
    by_cases h4 : 0 ≤ i ∧ 0 ≤ n ∧ n ≤ M.1 (o + 129 + 1 + 2 * x.toNatClampNeg) 2 ∧ i ≤ M.1 (o + 129 + 1 + 2 * x.toNatClampNeg) 2 - n
    · rw [if_pos h4]
      exact ⟨fun q => h1 (Or.inl q), fun q => h1 (Or.inr q), h2, h3, h4.1, h4.2.1, h4.2.2.1, h4.2.2.2, rfl⟩
    · rw [if_neg h4] at h; exact absurd (by decide) h
  · rw [if_pos h3] at h; exact absurd (by decide) h
theorem rng_n {B i n : Int32} {L : Nat} (hL : B = nI L) (h16 : L ≤ 16) (h1 : 0 ≤ i) (h2 : 0 ≤ n) (h3 : n ≤ B) (h4 : i ≤ B - n) : ∃ a k, i = nI a ∧ n = nI k ∧ a + k ≤ L := by
  subst hL
  obtain ⟨a, ha, rfl⟩ := nI_of (Int32.not_lt.mpr h1)
  obtain ⟨k, hk, rfl⟩ := nI_of (Int32.not_lt.mpr h2)
  have e3 := (nI_leI hk (by omega)).mp h3
  rw [pk_sub e3] at h4
  have e4 := (nI_leI ha (by omega)).mp h4
  exact ⟨a, k, rfl, rfl, by omega⟩
theorem l_th {v : Int64} {c : Int32} (h0 : 0 ≤ v) (h1 : v < c.toInt64) (hc : c ≤ 10) : 0 ≤ v.toInt32 ∧ v.toInt32 < c ∧ v.toInt32 < 10 := by
  have a := Int64.le_iff_toInt_le.mp h0
  have b := Int64.lt_iff_toInt_lt.mp h1
  rw [Int32.toInt_toInt64] at b
  have d := Int32.le_iff_toInt_le.mp hc
  have z0 : (0 : Int64).toInt = 0 := by decide
  have z1 : (10 : Int32).toInt = 10 := by decide
  have z2 : (0 : Int32).toInt = 0 := by decide
  have e : v.toInt32.toInt = v.toInt := by rw [Int64.toInt_toInt32]; exact Int.bmod_eq_of_le (by omega) (by omega)
  refine ⟨Int32.le_iff_toInt_le.mpr ?_, Int32.lt_iff_toInt_lt.mpr ?_, Int32.lt_iff_toInt_lt.mpr ?_⟩ <;> omega
/-- all of so many items are things -/
def allIn (f : Nat → Int64) (nt : Int32) : Nat → Nat → Prop
  | 0, _ => True
  | j + 1, k => (0 ≤ f k ∧ f k < nt.toInt64) ∧ allIn f nt j (k + 1)
theorem allIn_at {f : Nat → Int64} {nt : Int32} : ∀ {j k : Nat}, allIn f nt j k → ∀ q, k ≤ q → q < k + j → 0 ≤ f q ∧ f q < nt.toInt64 := by
  intro j
  induction j with
  | zero => intro k _ q h1 h2; omega
  | succ j ih =>
    intro k h q h1 h2
    by_cases e : q = k
    · rw [e]; exact h.1
    · exact ih h.2 q (by omega) (by omega)
/-- by which minds all the changes are seen -/
def seenL (th : zF1) (f : Nat → Int64) : Nat → Nat → Int32 → Int32
  | 0, _, s => s
  | j + 1, k, s => seenL th f j (k + 2) (s &&& mindsF th (f k).toInt32.toNatClampNeg (f (k + 1)).toInt32.toNatClampNeg)
theorem c_X7_seen {l : Launch} {w : zE} (J : zJ w) {M : zM} {o L : Nat} {x ln i n : Int32} (hk : zk o = 7) (hnt : M.1 (o + 1 + 1) 0 ≤ 10) (hL : M.1 (o + 129 + 1 + 2 * x.toNatClampNeg) 2 = nI L) (h16 : L ≤ 16) : zCi l w yX7_seen cX7_seen 9 (some .int) 3 [.ref (w.2.2 o), .int x, .int ln, .int i, .int n] M (fun r M2 => M2 = M ∧ ((n < 1 ∨ 8 < n) ∧ r = -1 ∨ ¬ (n < 1 ∨ 8 < n) ∧ (rowS M o x ln i (2 * n) < 0 ∧ r = rowS M o x ln i (2 * n) ∨ ¬ rowS M o x ln i (2 * n) < 0 ∧ ∃ a m, i = nI a ∧ n = nI m ∧ a + 2 * m ≤ 16 ∧ (¬ allIn (M.2 (o + 129 + 1 + 2 * x.toNatClampNeg + 1)) (M.1 (o + 1 + 1) 0) (2 * m) a ∧ r = -2 ∨ allIn (M.2 (o + 129 + 1 + 2 * x.toNatClampNeg + 1)) (M.1 (o + 1 + 1) 0) (2 * m) a ∧ r = seenL (M.1 (o + 1 + 1 + 1)) (M.2 (o + 129 + 1 + 2 * x.toNatClampNeg + 1)) m a 3)))) := by
  refine zCi_of J zm_X7_seen [some (.ref (w.2.2 o)), some (.int x), some (.int ln), some (.int i), some (.int n), none, none, none, none] (Nat.le_of_ble_eq_true rfl) rfl (fun g hg F X => ?_)
  subst hg
  generalize hs : o + 129 + 1 + 2 * x.toNatClampNeg = s at X
  have key2 : ∀ (a m : Nat) (y : Int32), zk s = 2 → i = nI a → n = nI m → a + 2 * m ≤ 16 → ¬ (n < 1 ∨ 8 < n) → ¬ rowS M o x ln i (2 * n) < 0 → allIn (M.2 (s + 1)) (M.1 (o + 1 + 1) 0) (2 * m) a → ∀ (j k : Nat) (u : Int32), a + 2 * m = k + 2 * j → a ≤ k → seenL (M.1 (o + 1 + 1 + 1)) (M.2 (s + 1)) j k u = seenL (M.1 (o + 1 + 1 + 1)) (M.2 (s + 1)) m a 3 → ZW w g 9 106 [some (.ref (w.2.2 o)), some (.int x), some (.int ln), some (.int i), some (.int n), some (.int y), some (.ref (w.2.2 (s + 1))), some (.int u), some (.int (nI k))] [] M := by
    intro a m y hk2 hia hnm h2 hn1 hF hal j
    have hz := zn_sheet s (zk_i hk2 (by decide)) hk2
    have hk14 := zkf2 s (zk_i hk2 (by decide)) hk2
    have e2 : (2 : Int32) * n = nI (2 * m) := by rw [hnm]; exact pk_mul 2 m
    have e3 : i + (2 : Int32) * n = nI (a + 2 * m) := by rw [e2, hia, nI_add]
    induction j with
    | zero =>
      intro k u hkj hak hse
      refine z_iload F dX7_seen_106 rfl ?_
      refine z_iload_n F dX7_seen_108 rfl ?_
      refine z_iconst (v := 2) F dX7_seen_109 (by decide) ?_
      refine z_iload F dX7_seen_110 rfl ?_
      refine z_imul F dX7_seen_112 ?_
      refine z_iadd F dX7_seen_113 ?_
      refine z_ic_ge (tgt := 152) F dX7_seen_114 (by decide) (fun h_114 => ?_) (fun h_114 => absurd h_114 (by rw [e3, show k = a + 2 * m by omega]; exact nlt (Int32.le_refl _)))
      refine z_iload F dX7_seen_152 rfl ?_
      refine z_iret F X dX7_seen_154 ?_
      exact ⟨rfl, Or.inr ⟨hn1, Or.inr ⟨hF, a, m, hia, hnm, h2, Or.inr ⟨hal, hse⟩⟩⟩⟩
    | succ j ih =>
      intro k u hkj hak hse
      have c0 : (nI k).toNatClampNeg = k := nI_clamp (by omega)
      have c1 : (nI k + 1).toNatClampNeg = k + 1 := by rw [nI_1]; exact nI_clamp (by omega)
      have i0 := l_th (allIn_at hal k (by omega) (by omega)).1 (allIn_at hal k (by omega) (by omega)).2 hnt
      have i1 := l_th (allIn_at hal (k + 1) (by omega) (by omega)).1 (allIn_at hal (k + 1) (by omega) (by omega)).2 hnt
      refine z_iload F dX7_seen_106 rfl ?_
      refine z_iload_n F dX7_seen_108 rfl ?_
      refine z_iconst (v := 2) F dX7_seen_109 (by decide) ?_
      refine z_iload F dX7_seen_110 rfl ?_
      refine z_imul F dX7_seen_112 ?_
      refine z_iadd F dX7_seen_113 ?_
      refine z_ic_ge (tgt := 152) F dX7_seen_114 (by decide) (fun h_114 => absurd h_114 (by rw [e3]; exact nle (nI_lt (by omega) (by omega)))) (fun h_114 => ?_)
      refine z_iload F dX7_seen_117 rfl ?_
      refine z_aload_n F dX7_seen_119 rfl ?_
      refine zg_X7_now F (by with_reducible assumption) fl_X7_10 dX7_seen_120 (fun hk_120 => ?_)
      refine zg_X6_road F (by with_reducible assumption) fl_X7_44 dX7_seen_123 (fun hk_123 => ?_)
      refine z_aload F dX7_seen_126 rfl ?_
      refine z_iload F dX7_seen_128 rfl ?_
      refine z_lald14 F (by with_reducible assumption) (by rw [hz]; exact vp_in_nI (by omega) (by omega)) dX7_seen_130 ?_
      try simp only [c0, c1]
      refine z_l2i F dX7_seen_131 ?_
      refine z_aload F dX7_seen_132 rfl ?_
      refine z_iload F dX7_seen_134 rfl ?_
      refine z_iconst (v := 1) F dX7_seen_136 (by decide) ?_
      refine z_iadd F dX7_seen_137 ?_
      refine z_lald14 F (by with_reducible assumption) (by rw [hz, nI_1]; exact vp_in_nI (by omega) (by omega)) dX7_seen_138 ?_
      try simp only [c0, c1]
      refine z_l2i F dX7_seen_139 ?_
      refine z_callVi F (c_X1_mindsOf J (by with_reducible assumption) ⟨i0.1, i0.2.2⟩ ⟨i1.1, i1.2.2⟩) zm_X1_mindsOf zv_X1_mindsOf ml_X7_236 (by with_reducible assumption) (by decide) rfl rfl rfl (Nat.le_of_ble_eq_true rfl) dX7_seen_140 (by omega) (fun r_140 M_140 h_140 => ?_)
      obtain ⟨e_140, rfl⟩ := h_140
      replace e_140 := Eq.symm e_140
      subst e_140
      refine z_iand F dX7_seen_143 ?_
      refine z_istore (lv' := [_, _, _, _, _, _, _, _, _]) F dX7_seen_144 (by decide) rfl rfl ?_
      refine z_iincc (c := 2) (lv' := [_, _, _, _, _, _, _, _, _]) F dX7_seen_146 rfl (by decide) (by decide) rfl rfl ?_
      refine z_goto (tgt := 106) F dX7_seen_149 (by decide) ?_
      rw [show nI k + 2 = nI (k + 2) from nI_add k 2]
      exact ih (k + 2) _ (by omega) (by omega) hse
  have key1 : ∀ (a m : Nat) (y : Int32), zk s = 2 → i = nI a → n = nI m → a + 2 * m ≤ 16 → ¬ (n < 1 ∨ 8 < n) → ¬ rowS M o x ln i (2 * n) < 0 → ∀ (j k : Nat), a + 2 * m = k + j → a ≤ k → (allIn (M.2 (s + 1)) (M.1 (o + 1 + 1) 0) j k ↔ allIn (M.2 (s + 1)) (M.1 (o + 1 + 1) 0) (2 * m) a) → ZW w g 9 50 [some (.ref (w.2.2 o)), some (.int x), some (.int ln), some (.int i), some (.int n), some (.int y), some (.ref (w.2.2 (s + 1))), some (.int (nI k)), none] [] M := by
    intro a m y hk2 hia hnm h2 hn1 hF j
    have hz := zn_sheet s (zk_i hk2 (by decide)) hk2
    have hk14 := zkf2 s (zk_i hk2 (by decide)) hk2
    have e2 : (2 : Int32) * n = nI (2 * m) := by rw [hnm]; exact pk_mul 2 m
    have e3 : i + (2 : Int32) * n = nI (a + 2 * m) := by rw [e2, hia, nI_add]
    induction j with
    | zero =>
      intro k hkj hak hse
      refine z_iload F dX7_seen_50 rfl ?_
      refine z_iload_n F dX7_seen_52 rfl ?_
      refine z_iconst (v := 2) F dX7_seen_53 (by decide) ?_
      refine z_iload F dX7_seen_54 rfl ?_
      refine z_imul F dX7_seen_56 ?_
      refine z_iadd F dX7_seen_57 ?_
      refine z_ic_ge (tgt := 100) F dX7_seen_58 (by decide) (fun h_58 => ?_) (fun h_58 => absurd h_58 (by rw [e3, show k = a + 2 * m by omega]; exact nlt (Int32.le_refl _)))
      refine z_iconst (v := 3) F dX7_seen_100 (by decide) ?_
      refine z_istore (lv' := [_, _, _, _, _, _, _, _, _]) F dX7_seen_101 (by decide) rfl rfl ?_
      refine z_iload_n F dX7_seen_103 rfl ?_
      refine z_istore (lv' := [_, _, _, _, _, _, _, _, _]) F dX7_seen_104 (by decide) rfl rfl ?_
      rw [hia]
      rw [hia] at key2
      exact key2 a m y hk2 rfl hnm h2 hn1 (by rw [← hia]; exact hF) (hse.mp trivial) m a 3 rfl (by omega) rfl
    | succ j ih =>
      intro k hkj hak hse
      have c0 : (nI k).toNatClampNeg = k := nI_clamp (by omega)
      refine z_iload F dX7_seen_50 rfl ?_
      refine z_iload_n F dX7_seen_52 rfl ?_
      refine z_iconst (v := 2) F dX7_seen_53 (by decide) ?_
      refine z_iload F dX7_seen_54 rfl ?_
      refine z_imul F dX7_seen_56 ?_
      refine z_iadd F dX7_seen_57 ?_
      refine z_ic_ge (tgt := 100) F dX7_seen_58 (by decide) (fun h_58 => absurd h_58 (by rw [e3]; exact nle (nI_lt (by omega) (by omega)))) (fun h_58 => ?_)
      refine z_aload F dX7_seen_61 rfl ?_
      refine z_iload F dX7_seen_63 rfl ?_
      refine z_lald14 F (by with_reducible assumption) (by rw [hz]; exact vp_in_nI (by omega) (by omega)) dX7_seen_65 ?_
      try simp only [c0, lg_cmp_ge, lg_cmp_lt]
      refine z_lconst (v := 0) F dX7_seen_66 (by decide) ?_
      refine z_lcmp F dX7_seen_67 ?_
      refine z_if_lt (tgt := 91) F dX7_seen_68 (by decide) (fun h_68 => ?_) (fun h_68 => ?_)
      · try simp only [c0, lg_cmp_ge, lg_cmp_lt] at h_68
        refine z_bipush (v := (-2)) F dX7_seen_91 (by decide) ?_
        refine z_iret F X dX7_seen_93 ?_
        refine ⟨rfl, Or.inr ⟨hn1, Or.inr ⟨hF, a, m, hia, hnm, h2, Or.inl ⟨fun q => ?_, rfl⟩⟩⟩⟩
        replace q := (hse.mpr q).1
        first | exact absurd h_68 (Int64.not_lt.mpr q.1) | exact absurd q.2 (Int64.not_lt.mpr h_88)
      · try simp only [c0, lg_cmp_ge, lg_cmp_lt] at h_68
        refine z_aload F dX7_seen_71 rfl ?_
        refine z_iload F dX7_seen_73 rfl ?_
        refine z_lald14 F (by with_reducible assumption) (by rw [hz]; exact vp_in_nI (by omega) (by omega)) dX7_seen_75 ?_
        try simp only [c0, lg_cmp_ge, lg_cmp_lt]
        refine z_aload_n F dX7_seen_76 rfl ?_
        refine zg_X7_now F (by with_reducible assumption) fl_X7_10 dX7_seen_77 (fun hk_77 => ?_)
        refine zg_X6_road F (by with_reducible assumption) fl_X7_44 dX7_seen_80 (fun hk_80 => ?_)
        refine zg_X1_thingCount F (by with_reducible assumption) fl_X7_48 dX7_seen_83 ?_
        try simp only [c0, lg_cmp_ge, lg_cmp_lt]
        refine z_i2l F dX7_seen_86 ?_
        refine z_lcmp F dX7_seen_87 ?_
        refine z_if_lt (tgt := 94) F dX7_seen_88 (by decide) (fun h_88 => ?_) (fun h_88 => ?_)
        · try simp only [c0, lg_cmp_ge, lg_cmp_lt] at h_88
          refine z_iincc (c := 1) (lv' := [_, _, _, _, _, _, _, _, _]) F dX7_seen_94 rfl (by decide) (by decide) rfl rfl ?_
          refine z_goto (tgt := 50) F dX7_seen_97 (by decide) ?_
          rw [nI_1]
          exact ih (k + 1) (by omega) (by omega) ⟨fun q => hse.mp ⟨⟨h_68, h_88⟩, q⟩, fun q => (hse.mpr q).2⟩
        · try simp only [c0, lg_cmp_ge, lg_cmp_lt] at h_88
          refine z_bipush (v := (-2)) F dX7_seen_91 (by decide) ?_
          refine z_iret F X dX7_seen_93 ?_
          refine ⟨rfl, Or.inr ⟨hn1, Or.inr ⟨hF, a, m, hia, hnm, h2, Or.inl ⟨fun q => ?_, rfl⟩⟩⟩⟩
          replace q := (hse.mpr q).1
          first | exact absurd h_68 (Int64.not_lt.mpr q.1) | exact absurd q.2 (Int64.not_lt.mpr h_88)
  refine z_iload F dX7_seen_0 rfl ?_
  refine z_iconst (v := 1) F dX7_seen_2 (by decide) ?_
  refine z_ic_lt (tgt := 13) F dX7_seen_3 (by decide) (fun h_3 => ?_) (fun h_3 => ?_)
  · refine z_iconst (v := (-1)) F dX7_seen_13 (by decide) ?_
    refine z_iret F X dX7_seen_14 ?_
    refine ⟨rfl, Or.inl ⟨?_, rfl⟩⟩
    first | exact Or.inl h_3 | exact Or.inr h_10
  · refine z_iload F dX7_seen_6 rfl ?_
    refine z_bipush (v := 8) F dX7_seen_8 (by decide) ?_
    refine z_ic_le (tgt := 15) F dX7_seen_10 (by decide) (fun h_10 => ?_) (fun h_10 => ?_)
    · refine z_aload_n F dX7_seen_15 rfl ?_
      refine z_iload_n F dX7_seen_16 rfl ?_
      refine z_iload_n F dX7_seen_17 rfl ?_
      refine z_iload_n F dX7_seen_18 rfl ?_
      refine z_iconst (v := 2) F dX7_seen_19 (by decide) ?_
      refine z_iload F dX7_seen_20 rfl ?_
      refine z_imul F dX7_seen_22 ?_
      refine z_callVi F (c_X7_rowFault J hk) zm_X7_rowFault zv_X7_rowFault ml_X7_229 (by with_reducible assumption) (by decide) rfl rfl rfl (Nat.le_of_ble_eq_true rfl) dX7_seen_23 (by omega) (fun r_23 M_23 h_23 => ?_)
      obtain ⟨e_23, rfl⟩ := h_23
      replace e_23 := Eq.symm e_23
      subst e_23
      refine z_istore (lv' := [_, _, _, _, _, _, _, _, _]) F dX7_seen_26 (by decide) rfl rfl ?_
      refine z_iload F dX7_seen_28 rfl ?_
      refine z_if_ge (tgt := 36) F dX7_seen_30 (by decide) (fun h_30 => ?_) (fun h_30 => ?_)
      · refine z_aload_n F dX7_seen_36 rfl ?_
        refine zg_X7_sheets F (by with_reducible assumption) fl_X7_35 dX7_seen_37 (fun hk_37 => ?_)
        refine z_iload_n F dX7_seen_40 rfl ?_
        refine z_aald15 F (by with_reducible assumption) (in4 (rowS_ok (nlt h_30)).1) dX7_seen_41 (fun hk_41 => ?_)
        refine zg_X2_items F (by with_reducible assumption) fl_X7_232 dX7_seen_42 (fun hk_42 => ?_)
        refine z_astore (lv' := [_, _, _, _, _, _, _, _, _]) F dX7_seen_45 (by decide) rfl rfl ?_
        refine z_iload_n F dX7_seen_47 rfl ?_
        refine z_istore (lv' := [_, _, _, _, _, _, _, _, _]) F dX7_seen_48 (by decide) rfl rfl ?_
        rw [hs] at hk_41 ⊢
        have hn1 : ¬ (n < 1 ∨ 8 < n) := fun q => q.elim (nlt h_3) (nlt h_10)
        obtain ⟨r1, r2, r3, r4, r5, r6, r7, r8, r9⟩ := rowS_ok (nlt h_30)
        obtain ⟨m, hm, rfl⟩ := nI_of (x := n) (by grind)
        have hm8 := (nI_leI (b := 8) hm (by decide)).mp h_10
        obtain ⟨a, k, rfl, e6, e7⟩ := rng_n hL h16 r5 r6 r7 r8
        have e8 : 2 * m = k := by
          have : (2 : Int32) * nI m = nI (2 * m) := pk_mul 2 m
          rw [this] at e6
          exact (nI_eq (by omega) (by omega)).mp e6
        exact key1 a m _ hk_41 rfl rfl (by omega) hn1 (nlt h_30) (2 * m) a rfl (by omega) Iff.rfl
      · refine z_iload F dX7_seen_33 rfl ?_
        refine z_iret F X dX7_seen_35 ?_
        exact ⟨rfl, Or.inr ⟨fun q => q.elim (nlt h_3) (nlt h_10), Or.inl ⟨h_30, rfl⟩⟩⟩
    · refine z_iconst (v := (-1)) F dX7_seen_13 (by decide) ?_
      refine z_iret F X dX7_seen_14 ?_
      refine ⟨rfl, Or.inl ⟨?_, rfl⟩⟩
      first | exact Or.inl h_3 | exact Or.inr h_10
