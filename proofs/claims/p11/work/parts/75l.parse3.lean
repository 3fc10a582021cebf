/-! what is had, a person, as the reference reads them -/
def TR (rp : zF1) : zF1 := fun q => if q < 5 then (if q = 0 then -4 else 0) else rp (3 * (q - 5) + 1)
def peR (rp : zF1) : zF1 := fun q => if q % 2 = 0 then rp (3 * (q / 2)) else rp (3 * (q / 2) + 2)
theorem TR_5 (rp : zF1) (k : Nat) : TR rp (5 + k) = rp (3 * k + 1) := by unfold TR; rw [if_neg (by omega), show 5 + k - 5 = k by omega]
theorem TR_up0 (rp : zF1) (m : Nat) (v : Int32) : TR (va_up rp (3 * m) v) = TR rp := by
  funext q
  unfold TR
  split
  · rfl
  · exact va_up_ne _ _ (by omega)
theorem TR_up2 (rp : zF1) (m : Nat) (v : Int32) : TR (va_up rp (3 * m + 2) v) = TR rp := by
  funext q
  unfold TR
  split
  · rfl
  · exact va_up_ne _ _ (by omega)
theorem TR_up1 (rp : zF1) (m : Nat) (v : Int32) : TR (va_up rp (3 * m + 1) v) = va_up (TR rp) (5 + m) v := by
  funext q
  by_cases h : q = 5 + m
  · subst h; rw [TR_5, va_up_self, va_up_self]
  · rw [va_up_ne _ _ h]
    unfold TR
    split
    · rfl
    · exact va_up_ne _ _ (by omega)
theorem peR_up0 (rp : zF1) (m : Nat) (v : Int32) : peR (va_up rp (3 * m) v) = va_up (peR rp) (2 * m) v := by
  funext q
  by_cases h : q = 2 * m
  · subst h; rw [va_up_self]; unfold peR; rw [if_pos (by omega), show 2 * m / 2 = m by omega, va_up_self]
  · rw [va_up_ne _ _ h]
    unfold peR
    split
    · exact va_up_ne _ _ (by omega)
    · exact va_up_ne _ _ (by omega)
theorem peR_up1 (rp : zF1) (m : Nat) (v : Int32) : peR (va_up rp (3 * m + 1) v) = peR rp := by
  funext q
  unfold peR
  split
  · exact va_up_ne _ _ (by omega)
  · exact va_up_ne _ _ (by omega)
theorem peR_up2 (rp : zF1) (m : Nat) (v : Int32) : peR (va_up rp (3 * m + 2) v) = va_up (peR rp) (2 * m + 1) v := by
  funext q
  by_cases h : q = 2 * m + 1
  · subst h; rw [va_up_self]; unfold peR; rw [if_neg (by omega), show (2 * m + 1) / 2 = m by omega, va_up_self]
  · rw [va_up_ne _ _ h]
    unfold peR
    split
    · exact va_up_ne _ _ (by omega)
    · exact va_up_ne _ _ (by omega)
theorem le_m1 {t : Int32} {n : Nat} (h : n ≤ 10) : t ≤ nI n - 1 ↔ t < nI n := by
  have e : (nI n - 1).toInt = (n : Int) - 1 := (by decide : ∀ n, n < 11 → (nI n - 1).toInt = (n : Int) - 1) n (by omega)
  rw [Int32.le_iff_toInt_le, Int32.lt_iff_toInt_lt, e, nI_toInt (by omega)]
  omega
theorem who_TR {rp : zF1} {m : Nat} {t : Int32} (h8 : m ≤ 8) (h0 : 0 ≤ t) : whoF (TR rp) m t = -4 ↔ ∀ k, k < m → ¬ rp (3 * k + 1) = t := by
  rw [whoF_none h8]
  constructor
  · intro z k hk
    have := z.2 k hk
    rw [TR_5] at this
    exact this
  · intro z
    refine ⟨fun y => ?_, fun k hk => by rw [TR_5]; exact z k hk⟩
    rw [show TR rp 0 = -4 from rfl] at y
    subst y
    exact absurd h0 (by decide)
theorem free_t {L : zF1} {len p n m : Nat} {rp : zF1} {t : Int32} (h8 : m ≤ 8) (ht : t = chF L len (nxP L (len - p) p) - 48) (h1 : 0 ≤ t ∧ t < nI n) (h2 : ∀ k, k < m → ¬ rp (3 * k + 1) = t) : freeF L len p (nI n) (TR rp) m = (t, nxP L (len - p) p + 1) := by
  unfold freeF
  rw [← ht, if_pos ⟨h1, (who_TR h8 h1.1).mpr h2⟩]
theorem free_f {L : zF1} {len p n m : Nat} {rp : zF1} {t : Int32} (h8 : m ≤ 8) (ht : t = chF L len (nxP L (len - p) p) - 48) (h1 : (0 ≤ t ∧ t < nI n) → ∃ k, k < m ∧ rp (3 * k + 1) = t) : freeF L len p (nI n) (TR rp) m = (-1, nxP L (len - p) p) := by
  unfold freeF
  rw [← ht, if_neg (fun z => by obtain ⟨k, q1, q2⟩ := h1 z.1; exact (who_TR h8 z.1.1).mp z.2 k q1 q2)]
theorem p_readHad {l : Launch} {w : zE} (J : zJ w) {M0 M : zM} {p n m len : Nat} {th rp : zF1} (h : RS M0 M p 0 n m th rp) (hl : M0.1 138 10 = nI len) (h120 : len ≤ 120) (hp : p ≤ len) (hn : n ≤ 10) (hm : m ≤ 8) : zCi l w yX8_readHad cX8_readHad 3 (some .int) 1 [.ref (w.2.2 138)] M (fun r M2 => ((freeF (M0.1 142) len p (nI n) (TR rp) m).1 < 0 ∧ RS M0 M2 (freeF (M0.1 142) len p (nI n) (TR rp) m).2 1 n m th rp) ∨ (¬ (freeF (M0.1 142) len p (nI n) (TR rp) m).1 < 0 ∧ RS M0 M2 (freeF (M0.1 142) len p (nI n) (TR rp) m).2 0 n m th rp ∧ r = (freeF (M0.1 142) len p (nI n) (TR rp) m).1)) := by
  have hk : zk 138 = 8 := by decide
  obtain ⟨hz1, hz2, hz3, hz4, hz5, hz6, hz7, hz8, hz9, hz10, hz11, hz12, hz13, hz14, hz15⟩ := zn8 (show 138 = 138 from rfl)
  refine zCi_of J zm_X8_readHad [some (.ref (w.2.2 138)), none, none] (Nat.le_of_ble_eq_true rfl) rfl (fun g hg F X => ?_)
  subst hg
  have ex1 : ∀ (t k : Int32) (q : Nat) (M' : zM), RS M0 M' q 1 n m th rp → freeF (M0.1 142) len p (nI n) (TR rp) m = (-1, q) → ZW w g 3 97 [some (.ref (w.2.2 138)), some (.int t), some (.int k)] [] M' := by
    intro t k q M' R e
    refine z_aload_n F dX8_readHad_97 rfl ?_
    refine z_dup F dX8_readHad_98 rfl ?_
    refine zg_X8_at F (by with_reducible assumption) fl_X8_124 dX8_readHad_99 ?_
    try simp only [R.2.1, R.2.2.1]
    refine z_aload_n F dX8_readHad_102 rfl ?_
    refine zg_X8_wrong F (by with_reducible assumption) fl_X8_127 dX8_readHad_103 ?_
    try simp only [R.2.1, R.2.2.1]
    refine z_if_eq (tgt := 113) F dX8_readHad_106 (by decide) (fun h_106 => absurd h_106 (by decide)) (fun h_106 => ?_)
    refine z_iconst (v := 0) F dX8_readHad_109 (by decide) ?_
    refine z_goto (tgt := 114) F dX8_readHad_110 (by decide) ?_
    refine z_iadd F dX8_readHad_114 ?_
    refine zp_X8_at F (by with_reducible assumption) fl_X8_124 dX8_readHad_115 ?_
    refine z_iload_n F dX8_readHad_118 rfl ?_
    refine z_iret F X dX8_readHad_119 ?_
    rw [e, Int32.add_zero]
    exact Or.inl ⟨(by decide : (-1 : Int32) < 0), R.at _⟩
  have ex0 : ∀ (t k : Int32) (q : Nat) (M' : zM), RS M0 M' q 0 n m th rp → freeF (M0.1 142) len p (nI n) (TR rp) m = (t, q + 1) → 0 ≤ t → ZW w g 3 97 [some (.ref (w.2.2 138)), some (.int t), some (.int k)] [] M' := by
    intro t k q M' R e ht
    refine z_aload_n F dX8_readHad_97 rfl ?_
    refine z_dup F dX8_readHad_98 rfl ?_
    refine zg_X8_at F (by with_reducible assumption) fl_X8_124 dX8_readHad_99 ?_
    try simp only [R.2.1, R.2.2.1]
    refine z_aload_n F dX8_readHad_102 rfl ?_
    refine zg_X8_wrong F (by with_reducible assumption) fl_X8_127 dX8_readHad_103 ?_
    try simp only [R.2.1, R.2.2.1]
    refine z_if_eq (tgt := 113) F dX8_readHad_106 (by decide) (fun h_106 => ?_) (fun h_106 => absurd h_106 (by decide))
    refine z_iconst (v := 1) F dX8_readHad_113 (by decide) ?_
    refine z_iadd F dX8_readHad_114 ?_
    refine zp_X8_at F (by with_reducible assumption) fl_X8_124 dX8_readHad_115 ?_
    refine z_iload_n F dX8_readHad_118 rfl ?_
    refine z_iret F X dX8_readHad_119 ?_
    rw [e, nI_1]
    exact Or.inr ⟨Int32.not_lt.mpr ht, R.at _, rfl⟩
  have lp1 : ∀ (t k : Int32) (q : Nat) (M' : zM), RS M0 M' q 1 n m th rp → freeF (M0.1 142) len p (nI n) (TR rp) m = (-1, q) → ZW w g 3 53 [some (.ref (w.2.2 138)), some (.int t), some (.int k)] [] M' := by
    intro t k q M' R e
    refine z_iload_n F dX8_readHad_53 rfl ?_
    refine z_aload_n F dX8_readHad_54 rfl ?_
    refine zg_X8_manyPeople F (by with_reducible assumption) fl_X8_148 dX8_readHad_55 ?_
    try simp only [R.2.2.1]
    refine z_ic_ge (tgt := 97) F dX8_readHad_58 (by decide) (fun h_58 => ?_) (fun h_58 => ?_)
    · try simp only [R.2.2.1] at h_58
      exact ex1 t k q M' R e
    · try simp only [R.2.2.1] at h_58
      refine z_aload_n F dX8_readHad_61 rfl ?_
      refine zg_X8_wrong F (by with_reducible assumption) fl_X8_127 dX8_readHad_62 ?_
      try simp only [R.2.2.1]
      refine z_if_ne (tgt := 97) F dX8_readHad_65 (by decide) (fun h_65 => ?_) (fun h_65 => absurd h_65 (by decide))
      exact ex1 t k q M' R e
  have lp : ∀ (t : Int32), t = chF (M0.1 142) len (nxP (M0.1 142) (len - p) p) - 48 → (0 ≤ t ∧ t < nI n) → ∀ (j k : Nat) (M' : zM), k + j = m → (∀ i, i < k → ¬ rp (3 * i + 1) = t) → RS M0 M' (nxP (M0.1 142) (len - p) p) 0 n m th rp → ZW w g 3 53 [some (.ref (w.2.2 138)), some (.int t), some (.int (nI k))] [] M' := by
    intro t et ht j
    induction j with
    | zero =>
      intro k M' hkj hi R
      obtain rfl : k = m := by omega
      refine z_iload_n F dX8_readHad_53 rfl ?_
      refine z_aload_n F dX8_readHad_54 rfl ?_
      refine zg_X8_manyPeople F (by with_reducible assumption) fl_X8_148 dX8_readHad_55 ?_
      try simp only [R.2.2.2.2.1]
      refine z_ic_ge (tgt := 97) F dX8_readHad_58 (by decide) (fun h_58 => ?_) (fun h_58 => absurd h_58 (nlt (Int32.le_refl _)))
      exact ex0 t _ _ M' R (free_t hm et ht hi) ht.1
    | succ j ih =>
      intro k M' hkj hi R
      refine z_iload_n F dX8_readHad_53 rfl ?_
      refine z_aload_n F dX8_readHad_54 rfl ?_
      refine zg_X8_manyPeople F (by with_reducible assumption) fl_X8_148 dX8_readHad_55 ?_
      try simp only [R.2.2.2.2.1, R.2.2.1, show M'.1 (138 + 6) = rp from R.2.2.2.2.2.2, R.2.2.2.2.2.2]
      refine z_ic_ge (tgt := 97) F dX8_readHad_58 (by decide) (fun h_58 => absurd h_58 (nle (nI_lt (by omega) (by omega)))) (fun h_58 => ?_)
      refine z_aload_n F dX8_readHad_61 rfl ?_
      refine zg_X8_wrong F (by with_reducible assumption) fl_X8_127 dX8_readHad_62 ?_
      try simp only [R.2.2.2.2.1, R.2.2.1, show M'.1 (138 + 6) = rp from R.2.2.2.2.2.2, R.2.2.2.2.2.2]
      refine z_if_ne (tgt := 97) F dX8_readHad_65 (by decide) (fun h_65 => absurd h_65 (by decide)) (fun h_65 => ?_)
      refine z_aload_n F dX8_readHad_68 rfl ?_
      refine z_aload_n F dX8_readHad_69 rfl ?_
      refine zg_X8_readPeople F (by with_reducible assumption) fl_X8_25 dX8_readHad_70 (fun hk_70 => ?_)
      refine z_iconst (v := 3) F dX8_readHad_73 (by decide) ?_
      refine z_iload_n F dX8_readHad_74 rfl ?_
      refine z_imul F dX8_readHad_75 ?_
      refine z_iconst (v := 1) F dX8_readHad_76 (by decide) ?_
      refine z_iadd F dX8_readHad_77 ?_
      refine z_iald10n (q := ((3 * k) + 1)) F (by with_reducible assumption) (by first | with_reducible rfl | (simp only [n4, n2, n3, n5, n14, n16, na1, na2, na3, nI_add, nI_1, nI_pred]; done) | (simp only [n4, n2, n3, n5, n14, n16, na1, na2, na3, nI_add, nI_1, nI_pred, Nat.add_assoc, Nat.add_comm, Nat.add_left_comm]; done)) (by rw [hz6]; omega) dX8_readHad_78 ?_
      try simp only [R.2.2.2.2.1, R.2.2.1, show M'.1 (138 + 6) = rp from R.2.2.2.2.2.2, R.2.2.2.2.2.2]
      refine z_iload_n F dX8_readHad_79 rfl ?_
      refine z_ic_ne (tgt := 87) F dX8_readHad_80 (by decide) (fun h_80 => ?_) (fun h_80 => ?_)
      · try simp only [R.2.2.2.2.1, R.2.2.1, show M'.1 (138 + 6) = rp from R.2.2.2.2.2.2, R.2.2.2.2.2.2] at h_80
        refine z_iconst (v := 0) F dX8_readHad_87 (by decide) ?_
        refine zp_X8_wrong F (by with_reducible assumption) fl_X8_127 (by decide) (by decide) dX8_readHad_88 ?_
        refine z_iincc (c := 1) (lv' := [_, _, _]) F dX8_readHad_91 rfl (by decide) (by decide) rfl rfl ?_
        refine z_goto (tgt := 53) F dX8_readHad_94 (by decide) ?_
        rw [nI_1]
        refine ih (k + 1) _ (by omega) (fun i hi2 => ?_) (R.wr 0)
        by_cases e : i = k
        · subst e; exact h_80
        · exact hi i (by omega)
      · try simp only [R.2.2.2.2.1, R.2.2.1, show M'.1 (138 + 6) = rp from R.2.2.2.2.2.2, R.2.2.2.2.2.2] at h_80
        refine z_iconst (v := 1) F dX8_readHad_83 (by decide) ?_
        refine z_goto (tgt := 88) F dX8_readHad_84 (by decide) ?_
        refine zp_X8_wrong F (by with_reducible assumption) fl_X8_127 (by decide) (by decide) dX8_readHad_88 ?_
        refine z_iincc (c := 1) (lv' := [_, _, _]) F dX8_readHad_91 rfl (by decide) (by decide) rfl rfl ?_
        refine z_goto (tgt := 53) F dX8_readHad_94 (by decide) ?_
        exact lp1 t _ _ _ (R.wr 1) (free_f hm et (fun _ => ⟨k, by omega, h_80⟩))
  refine z_aload_n F dX8_readHad_0 rfl ?_
  refine zg_X8_wrong F (by with_reducible assumption) fl_X8_127 dX8_readHad_1 ?_
  try simp only [h.2.2.1]
  refine z_if_eq (tgt := 11) F dX8_readHad_4 (by decide) (fun h_4 => ?_) (fun h_4 => absurd h_4 (by decide))
  refine z_aload_n F dX8_readHad_11 rfl ?_
  refine z_callVi F (p_here J h hl h120 hp) zm_X8_here zv_X8_here ml_X8_131 (by with_reducible assumption) (by decide) rfl rfl rfl (Nat.le_of_ble_eq_true rfl) dX8_readHad_12 (by omega) (fun r_12 M_12 h_12 => ?_)
  obtain ⟨R_12, e_12⟩ := h_12
  subst e_12
  refine z_bipush (v := 48) F dX8_readHad_15 (by decide) ?_
  refine z_isub F dX8_readHad_17 ?_
  refine z_istore_n (lv' := [_, _, _]) F dX8_readHad_18 (by decide) rfl rfl ?_
  refine z_aload_n F dX8_readHad_19 rfl ?_
  refine z_aload_n F dX8_readHad_20 rfl ?_
  refine zg_X8_wrong F (by with_reducible assumption) fl_X8_127 dX8_readHad_21 ?_
  simp only [R_12.2.2.1]
  refine z_if_ne (tgt := 43) F dX8_readHad_24 (by decide) (fun h_24 => absurd h_24 (by decide)) (fun h_24 => ?_)
  refine z_iload_n F dX8_readHad_27 rfl ?_
  refine z_i2l F dX8_readHad_28 ?_
  refine z_lconst (v := 0) F dX8_readHad_29 (by decide) ?_
  refine z_aload_n F dX8_readHad_30 rfl ?_
  refine zg_X8_manyThings F (by with_reducible assumption) fl_X8_139 dX8_readHad_31 ?_
  simp only [R_12.2.2.2.1]
  refine z_iconst (v := 1) F dX8_readHad_34 (by decide) ?_
  refine z_isub F dX8_readHad_35 ?_
  refine z_i2l F dX8_readHad_36 ?_
  refine z_callSi F (d_X8_in J (a := 0) (b := nI n - 1) (by decide) rfl) zm_X8_in zst_X8_in ml_X8_72 rfl rfl (Nat.le_of_ble_eq_true rfl) dX8_readHad_37 (by omega) (fun r_37 M_37 h_37 => ?_)
  obtain ⟨e_37, rfl⟩ := h_37
  replace e_37 := Eq.symm e_37
  subst e_37
  refine z_if_ne (tgt := 47) F dX8_readHad_40 (by decide) (fun h_40 => ?_) (fun h_40 => ?_)
  · replace h_40 := bI_1.mp h_40
    try simp only [h.2.2.1] at h_40
    refine z_iconst (v := 0) F dX8_readHad_47 (by decide) ?_
    refine zp_X8_wrong F (by with_reducible assumption) fl_X8_127 (by decide) (by decide) dX8_readHad_48 ?_
    refine z_iconst (v := 0) F dX8_readHad_51 (by decide) ?_
    refine z_istore_n (lv' := [_, _, _]) F dX8_readHad_52 (by decide) rfl rfl ?_
    exact lp _ rfl ⟨h_40.1, (le_m1 hn).mp h_40.2⟩ m 0 _ (by omega) (fun i hi => absurd hi (by omega)) (R_12.wr 0)
  · replace h_40 := bI_0.mp h_40
    try simp only [h.2.2.1] at h_40
    refine z_iconst (v := 1) F dX8_readHad_43 (by decide) ?_
    refine z_goto (tgt := 48) F dX8_readHad_44 (by decide) ?_
    refine zp_X8_wrong F (by with_reducible assumption) fl_X8_127 (by decide) (by decide) dX8_readHad_48 ?_
    refine z_iconst (v := 0) F dX8_readHad_51 (by decide) ?_
    refine z_istore_n (lv' := [_, _, _]) F dX8_readHad_52 (by decide) rfl rfl ?_
    exact lp1 _ _ _ _ (R_12.wr 1) (free_f hm rfl (fun z => absurd ⟨z.1, (le_m1 hn).mpr z.2⟩ h_40))
theorem perG_opt (L : zF1) (len : Nat) (t : Int32 × Nat) (m : Int32) : perG L len t m = if (optF L len t.2 43 20).1 < 0 then (0, (optF L len t.2 43 20).2, 0, 0, 0) else (1, (optF L len t.2 43 20).2, m, (optF L len t.2 43 20).1, t.1) := by
  unfold perG optF
  by_cases h : rdB L len t.2 43
  · rw [if_pos h, if_pos h]
  · rw [if_neg h, if_neg h, if_neg (by show ¬ (0 : Int32) < 0; decide)]
abbrev hadQ (L : zF1) (len p n m : Nat) (rp : zF1) (W2 : Int32) (P2 : Nat) (v : Int32) : Prop := (W2 = 1 ∧ (perF L len p (nI n) (TR rp) m).1 = 0 ∧ (perF L len p (nI n) (TR rp) m).2.1 = P2) ∨ (W2 = 0 ∧ nuW L len 0 p 11 = 0 ∧ perF L len p (nI n) (TR rp) m = perG L len (v, P2) (numF L len p 11).1)
theorem per_end {L : zF1} {len p n m P2 : Nat} {rp : zF1} {W2 v : Int32} (h : hadQ L len p n m rp W2 P2 v) :
    ((perF L len p (nI n) (TR rp) m).1 = 0 ∧ opW L len W2 P2 43 20 = 1 ∧ opP L len W2 P2 43 20 = (perF L len p (nI n) (TR rp) m).2.1) ∨ (¬ (perF L len p (nI n) (TR rp) m).1 = 0 ∧ nuW L len 0 p 11 = 0 ∧ opW L len W2 P2 43 20 = 0 ∧ opP L len W2 P2 43 20 = (perF L len p (nI n) (TR rp) m).2.1 ∧ (perF L len p (nI n) (TR rp) m).2.2 = ((numF L len p 11).1, (optF L len P2 43 20).1, v)) := by
  rcases h with ⟨rfl, h1, h2⟩ | ⟨rfl, h1, h2⟩
  · rw [opW_1, opP_1]
    exact Or.inl ⟨h1, rfl, h2.symm⟩
  · rw [h2, perG_opt, opP_0]
    by_cases z : (optF L len P2 43 20).1 < 0
    · rw [if_pos z, opW_f z]
      exact Or.inl ⟨rfl, rfl, rfl⟩
    · rw [if_neg z, opW_t z]
      exact Or.inr ⟨by show ¬ (1 : Int32) = 0; decide, h1, rfl, rfl, rfl⟩
theorem nuW_z {L : zF1} {len p : Nat} {hi : Int32} (h : nuW L len 0 p hi = 0) : ¬ (numF L len p hi).1 < 0 := fun z => by rw [nuW_f z] at h; exact absurd h (by decide)
theorem nuW_o {L : zF1} {len p : Nat} {hi : Int32} (h : ¬ nuW L len 0 p hi = 0) : (numF L len p hi).1 < 0 ∧ nuW L len 0 p hi = 1 := by
  by_cases z : (numF L len p hi).1 < 0
  · exact ⟨z, nuW_f z⟩
  · exact absurd (nuW_t z) h
/-- nothing is had -/
theorem had_no {L : zF1} {len p n m : Nat} {rp : zF1} (h : ¬ hsB L len (nuW L len 0 p 11) (nuP L len 0 p 11) 61) : hadQ L len p n m rp (nuW L len 0 p 11) (hsP L len (nuW L len 0 p 11) (nuP L len 0 p 11) 61) (-4) := by
  by_cases z : nuW L len 0 p 11 = 0
  · rw [z, nuP_0] at h
    have h2 : ¬ rdB L len (numF L len p 11).2 61 := fun y => h ⟨rfl, y⟩
    refine Or.inr ⟨z, z, ?_⟩
    rw [z, hsP_0, nuP_0]
    unfold perF
    rw [if_neg (nuW_z z), if_neg (fun y => h2 y.1), if_neg h2]
  · obtain ⟨z1, z2⟩ := nuW_o z
    refine Or.inl ⟨z2, ?_, ?_⟩
    · unfold perF; rw [if_pos z1]
    · rw [z2, hsP_1, nuP_0]; unfold perF; rw [if_pos z1]
theorem p_readPerson {l : Launch} {w : zE} (J : zJ w) {M0 M : zM} {p n m len : Nat} {th rp : zF1} (h : RS M0 M p 0 n m th rp) (hl : M0.1 138 10 = nI len) (h120 : len ≤ 120) (hp : p ≤ len) (hn : n ≤ 10) (hm : m < 8) : zCv l w yX8_readPerson cX8_readPerson 2 2 [.ref (w.2.2 138)] M (fun M2 => ((perF (M0.1 142) len p (nI n) (TR rp) m).1 = 0 ∧ ∃ rp', RS M0 M2 (perF (M0.1 142) len p (nI n) (TR rp) m).2.1 1 n (m + 1) th rp') ∨ (¬ (perF (M0.1 142) len p (nI n) (TR rp) m).1 = 0 ∧ ∃ rp', RS M0 M2 (perF (M0.1 142) len p (nI n) (TR rp) m).2.1 0 n (m + 1) th rp' ∧ peR rp' = va_up (va_up (peR rp) (2 * m) (perF (M0.1 142) len p (nI n) (TR rp) m).2.2.1) (2 * m + 1) (perF (M0.1 142) len p (nI n) (TR rp) m).2.2.2.1 ∧ TR rp' = va_up (TR rp) (5 + m) (perF (M0.1 142) len p (nI n) (TR rp) m).2.2.2.2)) := by
  have hk : zk 138 = 8 := by decide
  obtain ⟨hz1, hz2, hz3, hz4, hz5, hz6, hz7, hz8, hz9, hz10, hz11, hz12, hz13, hz14, hz15⟩ := zn8 (show 138 = 138 from rfl)
  refine zCv_of J zm_X8_readPerson [some (.ref (w.2.2 138)), none] (Nat.le_of_ble_eq_true rfl) rfl (fun g hg F X => ?_)
  subst hg
  have w1 := nuW_01 (M0.1 142) len 0 p 11
  have l1 : nuP (M0.1 142) len 0 p 11 ≤ len := nuP_le hp
  refine z_iconst (v := 3) F dX8_readPerson_0 (by decide) ?_
  refine z_aload_n F dX8_readPerson_1 rfl ?_
  refine zg_X8_manyPeople F (by with_reducible assumption) fl_X8_148 dX8_readPerson_2 ?_
  try simp only [h.2.2.2.2.1]
  refine z_imul F dX8_readPerson_5 ?_
  rw [n3]
  refine z_istore_n (lv' := [_, _]) F dX8_readPerson_6 (by decide) rfl rfl ?_
  refine z_aload_n F dX8_readPerson_7 rfl ?_
  refine zg_X8_readPeople F (by with_reducible assumption) fl_X8_25 dX8_readPerson_8 (fun hk_8 => ?_)
  refine z_iload_n F dX8_readPerson_11 rfl ?_
  refine z_aload_n F dX8_readPerson_12 rfl ?_
  refine z_bipush (v := 11) F dX8_readPerson_13 (by decide) ?_
  refine z_callVi F (p_numW J (h0 := 11) (hi := 11) h hl h120 hp (Or.inl rfl) rfl (by decide)) zm_X8_number zv_X8_number ml_X8_142 (by with_reducible assumption) (by decide) rfl rfl rfl (Nat.le_of_ble_eq_true rfl) dX8_readPerson_15 (by omega) (fun r_15 M_15 h_15 => ?_)
  obtain ⟨R_15, e_15⟩ := h_15
  refine z_iast10n (q := (3 * m)) F (by with_reducible assumption) (by first | with_reducible rfl | (simp only [n4, n2, n3, n5, n14, n16, na1, na2, na3, nI_add, nI_1, nI_pred]; done) | (simp only [n4, n2, n3, n5, n14, n16, na1, na2, na3, nI_add, nI_1, nI_pred, Nat.add_assoc, Nat.add_comm, Nat.add_left_comm]; done)) (by rw [hz6]; omega) dX8_readPerson_18 ?_
  refine z_aload_n F dX8_readPerson_19 rfl ?_
  refine zg_X8_readPeople F (by with_reducible assumption) fl_X8_25 dX8_readPerson_20 (fun hk_20 => ?_)
  refine z_iload_n F dX8_readPerson_23 rfl ?_
  refine z_iconst (v := 1) F dX8_readPerson_24 (by decide) ?_
  refine z_iadd F dX8_readPerson_25 ?_
  refine z_aload_n F dX8_readPerson_26 rfl ?_
  refine z_bipush (v := 61) F dX8_readPerson_27 (by decide) ?_
  refine z_callVi F (p_has J (R_15.pe (3 * m) r_15) hl h120 l1 w1) zm_X8_has zv_X8_has ml_X8_145 (by with_reducible assumption) (by decide) rfl rfl rfl (Nat.le_of_ble_eq_true rfl) dX8_readPerson_29 (by omega) (fun r_29 M_29 h_29 => ?_)
  obtain ⟨R_29, e_29⟩ := h_29
  subst e_29
  refine z_if_eq (tgt := 42) F dX8_readPerson_32 (by decide) (fun h_32 => ?_) (fun h_32 => ?_)
  · replace h_32 := bI_0.mp h_32
    try simp only [h.2.2.2.2.1] at h_32
    refine z_bipush (v := (-4)) F dX8_readPerson_42 (by decide) ?_
    refine z_iast10n (q := ((3 * m) + 1)) F (by with_reducible assumption) (by first | with_reducible rfl | (simp only [n4, n2, n3, n5, n14, n16, na1, na2, na3, nI_add, nI_1, nI_pred]; done) | (simp only [n4, n2, n3, n5, n14, n16, na1, na2, na3, nI_add, nI_1, nI_pred, Nat.add_assoc, Nat.add_comm, Nat.add_left_comm]; done)) (by rw [hz6]; omega) dX8_readPerson_44 ?_
    refine ZW_gen (fun M2 => ∃ W2 P2 v, (W2 = 0 ∨ W2 = 1) ∧ P2 ≤ len ∧ RS M0 M2 P2 W2 n m th (va_up (va_up rp (3 * m) r_15) (3 * m + 1) v) ∧ hadQ (M0.1 142) len p n m rp W2 P2 v) ?_ (fun M2 ⟨W2, P2, v, w2, l2, R2, hq⟩ => ?_)
    · exact ⟨_, _, -4, w1, hsP_le l1 (by decide), R_29.pe _ _, had_no h_32⟩
    refine z_aload_n F dX8_readPerson_45 rfl ?_
    refine zg_X8_readPeople F (by with_reducible assumption) fl_X8_25 dX8_readPerson_46 (fun hk_46 => ?_)
    refine z_iload_n F dX8_readPerson_49 rfl ?_
    refine z_iconst (v := 2) F dX8_readPerson_50 (by decide) ?_
    refine z_iadd F dX8_readPerson_51 ?_
    refine z_aload_n F dX8_readPerson_52 rfl ?_
    refine z_bipush (v := 43) F dX8_readPerson_53 (by decide) ?_
    refine z_callVi F (p_has J R2 hl h120 l2 w2) zm_X8_has zv_X8_has ml_X8_145 (by with_reducible assumption) (by decide) rfl rfl rfl (Nat.le_of_ble_eq_true rfl) dX8_readPerson_55 (by omega) (fun r_55 M_55 h_55 => ?_)
    obtain ⟨R_55, e_55⟩ := h_55
    subst e_55
    refine z_if_eq (tgt := 70) F dX8_readPerson_58 (by decide) (fun h_58 => ?_) (fun h_58 => ?_)
    · replace h_58 := bI_0.mp h_58
      try simp only [h.2.2.2.2.1] at h_58
      refine z_iconst (v := 0) F dX8_readPerson_70 (by decide) ?_
      refine z_iast10n (q := ((3 * m) + 2)) F (by with_reducible assumption) (by first | with_reducible rfl | (simp only [n4, n2, n3, n5, n14, n16, na1, na2, na3, nI_add, nI_1, nI_pred]; done) | (simp only [n4, n2, n3, n5, n14, n16, na1, na2, na3, nI_add, nI_1, nI_pred, Nat.add_assoc, Nat.add_comm, Nat.add_left_comm]; done)) (by rw [hz6]; omega) dX8_readPerson_71 ?_
      refine ZW_gen (fun M3 => ∃ v3, RS M0 M3 (opP (M0.1 142) len W2 P2 43 20) (opW (M0.1 142) len W2 P2 43 20) n m th (va_up (va_up (va_up rp (3 * m) r_15) (3 * m + 1) v) (3 * m + 2) v3) ∧ (opW (M0.1 142) len W2 P2 43 20 = 0 → v3 = (optF (M0.1 142) len P2 43 20).1)) ?_ (fun M3 ⟨v3, R3, e3⟩ => ?_)
      · refine ⟨0, ?_, fun z => ?_⟩
        · rw [opP, opW, if_neg h_58, if_neg h_58]
          exact R_55.pe _ _
        · rw [optF, if_neg (fun y => h_58 ⟨?_, y⟩)]
          rw [opW, if_neg h_58] at z
          exact z
      refine z_aload_n F dX8_readPerson_72 rfl ?_
      refine z_dup F dX8_readPerson_73 rfl ?_
      refine zg_X8_manyPeople F (by with_reducible assumption) fl_X8_148 dX8_readPerson_74 ?_
      rw [R3.2.2.2.2.1]
      refine z_iconst (v := 1) F dX8_readPerson_77 (by decide) ?_
      refine z_iadd F dX8_readPerson_78 ?_
      refine zp_X8_manyPeople F (by with_reducible assumption) fl_X8_148 dX8_readPerson_79 ?_
      refine z_vret F X dX8_readPerson_82 ?_
      rw [nI_1]
      have R4 := R3.mp (m + 1)
      rcases per_end hq with ⟨t1, t2, t3⟩ | ⟨t1, t2, t3, t4, t5⟩
      · rw [t2, t3] at R4
        exact Or.inl ⟨t1, _, R4⟩
      · have e3' := e3 t3
        rw [t3, t4] at R4
        refine Or.inr ⟨t1, _, R4, ?_, ?_⟩
        · rw [peR_up2, peR_up1, peR_up0, t5, e_15 t2, e3']
        · rw [TR_up2, TR_up1, TR_up0, t5]
    · replace h_58 := bI_1.mp h_58
      try simp only [h.2.2.2.2.1] at h_58
      refine z_aload_n F dX8_readPerson_61 rfl ?_
      refine z_bipush (v := 20) F dX8_readPerson_62 (by decide) ?_
      refine z_callVi F (p_numW J (h0 := 20) (hi := 20) R_55 hl h120 (hsP_le l2 (by decide)) w2 rfl (by decide)) zm_X8_number zv_X8_number ml_X8_142 (by with_reducible assumption) (by decide) rfl rfl rfl (Nat.le_of_ble_eq_true rfl) dX8_readPerson_64 (by omega) (fun r_64 M_64 h_64 => ?_)
      obtain ⟨R_64, e_64⟩ := h_64
      refine z_goto (tgt := 71) F dX8_readPerson_67 (by decide) ?_
      refine z_iast10n (q := ((3 * m) + 2)) F (by with_reducible assumption) (by first | with_reducible rfl | (simp only [n4, n2, n3, n5, n14, n16, na1, na2, na3, nI_add, nI_1, nI_pred]; done) | (simp only [n4, n2, n3, n5, n14, n16, na1, na2, na3, nI_add, nI_1, nI_pred, Nat.add_assoc, Nat.add_comm, Nat.add_left_comm]; done)) (by rw [hz6]; omega) dX8_readPerson_71 ?_
      refine ZW_gen (fun M3 => ∃ v3, RS M0 M3 (opP (M0.1 142) len W2 P2 43 20) (opW (M0.1 142) len W2 P2 43 20) n m th (va_up (va_up (va_up rp (3 * m) r_15) (3 * m + 1) v) (3 * m + 2) v3) ∧ (opW (M0.1 142) len W2 P2 43 20 = 0 → v3 = (optF (M0.1 142) len P2 43 20).1)) ?_ (fun M3 ⟨v3, R3, e3⟩ => ?_)
      · obtain ⟨z1, z2⟩ := h_58
        refine ⟨r_64, ?_, fun z => ?_⟩
        · rw [opP, opW, if_pos ⟨z1, z2⟩, if_pos ⟨z1, z2⟩]
          exact R_64.pe _ _
        · rw [opW, if_pos ⟨z1, z2⟩] at z
          rw [optF, if_pos z2, e_64 z, hsP, if_pos z1]
      refine z_aload_n F dX8_readPerson_72 rfl ?_
      refine z_dup F dX8_readPerson_73 rfl ?_
      refine zg_X8_manyPeople F (by with_reducible assumption) fl_X8_148 dX8_readPerson_74 ?_
      rw [R3.2.2.2.2.1]
      refine z_iconst (v := 1) F dX8_readPerson_77 (by decide) ?_
      refine z_iadd F dX8_readPerson_78 ?_
      refine zp_X8_manyPeople F (by with_reducible assumption) fl_X8_148 dX8_readPerson_79 ?_
      refine z_vret F X dX8_readPerson_82 ?_
      rw [nI_1]
      have R4 := R3.mp (m + 1)
      rcases per_end hq with ⟨t1, t2, t3⟩ | ⟨t1, t2, t3, t4, t5⟩
      · rw [t2, t3] at R4
        exact Or.inl ⟨t1, _, R4⟩
      · have e3' := e3 t3
        rw [t3, t4] at R4
        refine Or.inr ⟨t1, _, R4, ?_, ?_⟩
        · rw [peR_up2, peR_up1, peR_up0, t5, e_15 t2, e3']
        · rw [TR_up2, TR_up1, TR_up0, t5]
  · replace h_32 := bI_1.mp h_32
    try simp only [h.2.2.2.2.1] at h_32
    have hb := h_32
    obtain ⟨z1, z2⟩ := h_32
    have R29 := R_29
    rw [z1, hsP_0, nuP_0] at R29
    rw [nuP_0] at z2
    have l3 : rdP (M0.1 142) len (numF (M0.1 142) len p 11).2 61 ≤ len := rdP_le (numF_le hp) (by decide)
    refine z_aload_n F dX8_readPerson_35 rfl ?_
    refine z_callVi F (p_readHad J R29 hl h120 l3 hn (by omega)) zm_X8_readHad zv_X8_readHad ml_X8_151 (by with_reducible assumption) (by decide) rfl rfl rfl (Nat.le_of_ble_eq_true rfl) dX8_readPerson_36 (by omega) (fun r_36 M_36 h_36 => ?_)
    rw [TR_up0] at h_36
    refine z_goto (tgt := 44) F dX8_readPerson_39 (by decide) ?_
    refine z_iast10n (q := ((3 * m) + 1)) F (by with_reducible assumption) (by first | with_reducible rfl | (simp only [n4, n2, n3, n5, n14, n16, na1, na2, na3, nI_add, nI_1, nI_pred]; done) | (simp only [n4, n2, n3, n5, n14, n16, na1, na2, na3, nI_add, nI_1, nI_pred, Nat.add_assoc, Nat.add_comm, Nat.add_left_comm]; done)) (by rw [hz6]; omega) dX8_readPerson_44 ?_
    refine ZW_gen (fun M2 => ∃ W2 P2 v, (W2 = 0 ∨ W2 = 1) ∧ P2 ≤ len ∧ RS M0 M2 P2 W2 n m th (va_up (va_up rp (3 * m) r_15) (3 * m + 1) v) ∧ hadQ (M0.1 142) len p n m rp W2 P2 v) ?_ (fun M2 ⟨W2, P2, v, w2, l2, R2, hq⟩ => ?_)
    · have lf := freeF_le (L := M0.1 142) (len := len) (nt := nI n) (T := TR rp) (np := m) l3
      rcases h_36 with ⟨f1, R3⟩ | ⟨f1, R3, f2⟩
      · refine ⟨1, _, r_36, Or.inr rfl, lf, R3.pe _ _, Or.inl ⟨rfl, ?_, ?_⟩⟩
        · unfold perF; rw [if_neg (nuW_z z1), if_pos ⟨z2, f1⟩]
        · unfold perF; rw [if_neg (nuW_z z1), if_pos ⟨z2, f1⟩]
      · refine ⟨0, _, r_36, Or.inl rfl, lf, R3.pe _ _, Or.inr ⟨rfl, z1, ?_⟩⟩
        unfold perF
        rw [if_neg (nuW_z z1), if_neg (fun y => f1 y.2), if_pos z2, f2]
    refine z_aload_n F dX8_readPerson_45 rfl ?_
    refine zg_X8_readPeople F (by with_reducible assumption) fl_X8_25 dX8_readPerson_46 (fun hk_46 => ?_)
    refine z_iload_n F dX8_readPerson_49 rfl ?_
    refine z_iconst (v := 2) F dX8_readPerson_50 (by decide) ?_
    refine z_iadd F dX8_readPerson_51 ?_
    refine z_aload_n F dX8_readPerson_52 rfl ?_
    refine z_bipush (v := 43) F dX8_readPerson_53 (by decide) ?_
    refine z_callVi F (p_has J R2 hl h120 l2 w2) zm_X8_has zv_X8_has ml_X8_145 (by with_reducible assumption) (by decide) rfl rfl rfl (Nat.le_of_ble_eq_true rfl) dX8_readPerson_55 (by omega) (fun r_55 M_55 h_55 => ?_)
    obtain ⟨R_55, e_55⟩ := h_55
    subst e_55
    refine z_if_eq (tgt := 70) F dX8_readPerson_58 (by decide) (fun h_58 => ?_) (fun h_58 => ?_)
    · replace h_58 := bI_0.mp h_58
      try simp only [h.2.2.2.2.1] at h_58
      refine z_iconst (v := 0) F dX8_readPerson_70 (by decide) ?_
      refine z_iast10n (q := ((3 * m) + 2)) F (by with_reducible assumption) (by first | with_reducible rfl | (simp only [n4, n2, n3, n5, n14, n16, na1, na2, na3, nI_add, nI_1, nI_pred]; done) | (simp only [n4, n2, n3, n5, n14, n16, na1, na2, na3, nI_add, nI_1, nI_pred, Nat.add_assoc, Nat.add_comm, Nat.add_left_comm]; done)) (by rw [hz6]; omega) dX8_readPerson_71 ?_
      refine ZW_gen (fun M3 => ∃ v3, RS M0 M3 (opP (M0.1 142) len W2 P2 43 20) (opW (M0.1 142) len W2 P2 43 20) n m th (va_up (va_up (va_up rp (3 * m) r_15) (3 * m + 1) v) (3 * m + 2) v3) ∧ (opW (M0.1 142) len W2 P2 43 20 = 0 → v3 = (optF (M0.1 142) len P2 43 20).1)) ?_ (fun M3 ⟨v3, R3, e3⟩ => ?_)
      · refine ⟨0, ?_, fun z => ?_⟩
        · rw [opP, opW, if_neg h_58, if_neg h_58]
          exact R_55.pe _ _
        · rw [optF, if_neg (fun y => h_58 ⟨?_, y⟩)]
          rw [opW, if_neg h_58] at z
          exact z
      refine z_aload_n F dX8_readPerson_72 rfl ?_
      refine z_dup F dX8_readPerson_73 rfl ?_
      refine zg_X8_manyPeople F (by with_reducible assumption) fl_X8_148 dX8_readPerson_74 ?_
      rw [R3.2.2.2.2.1]
      refine z_iconst (v := 1) F dX8_readPerson_77 (by decide) ?_
      refine z_iadd F dX8_readPerson_78 ?_
      refine zp_X8_manyPeople F (by with_reducible assumption) fl_X8_148 dX8_readPerson_79 ?_
      refine z_vret F X dX8_readPerson_82 ?_
      rw [nI_1]
      have R4 := R3.mp (m + 1)
      rcases per_end hq with ⟨t1, t2, t3⟩ | ⟨t1, t2, t3, t4, t5⟩
      · rw [t2, t3] at R4
        exact Or.inl ⟨t1, _, R4⟩
      · have e3' := e3 t3
        rw [t3, t4] at R4
        refine Or.inr ⟨t1, _, R4, ?_, ?_⟩
        · rw [peR_up2, peR_up1, peR_up0, t5, e_15 t2, e3']
        · rw [TR_up2, TR_up1, TR_up0, t5]
    · replace h_58 := bI_1.mp h_58
      try simp only [h.2.2.2.2.1] at h_58
      refine z_aload_n F dX8_readPerson_61 rfl ?_
      refine z_bipush (v := 20) F dX8_readPerson_62 (by decide) ?_
      refine z_callVi F (p_numW J (h0 := 20) (hi := 20) R_55 hl h120 (hsP_le l2 (by decide)) w2 rfl (by decide)) zm_X8_number zv_X8_number ml_X8_142 (by with_reducible assumption) (by decide) rfl rfl rfl (Nat.le_of_ble_eq_true rfl) dX8_readPerson_64 (by omega) (fun r_64 M_64 h_64 => ?_)
      obtain ⟨R_64, e_64⟩ := h_64
      refine z_goto (tgt := 71) F dX8_readPerson_67 (by decide) ?_
      refine z_iast10n (q := ((3 * m) + 2)) F (by with_reducible assumption) (by first | with_reducible rfl | (simp only [n4, n2, n3, n5, n14, n16, na1, na2, na3, nI_add, nI_1, nI_pred]; done) | (simp only [n4, n2, n3, n5, n14, n16, na1, na2, na3, nI_add, nI_1, nI_pred, Nat.add_assoc, Nat.add_comm, Nat.add_left_comm]; done)) (by rw [hz6]; omega) dX8_readPerson_71 ?_
      refine ZW_gen (fun M3 => ∃ v3, RS M0 M3 (opP (M0.1 142) len W2 P2 43 20) (opW (M0.1 142) len W2 P2 43 20) n m th (va_up (va_up (va_up rp (3 * m) r_15) (3 * m + 1) v) (3 * m + 2) v3) ∧ (opW (M0.1 142) len W2 P2 43 20 = 0 → v3 = (optF (M0.1 142) len P2 43 20).1)) ?_ (fun M3 ⟨v3, R3, e3⟩ => ?_)
      · obtain ⟨z1, z2⟩ := h_58
        refine ⟨r_64, ?_, fun z => ?_⟩
        · rw [opP, opW, if_pos ⟨z1, z2⟩, if_pos ⟨z1, z2⟩]
          exact R_64.pe _ _
        · rw [opW, if_pos ⟨z1, z2⟩] at z
          rw [optF, if_pos z2, e_64 z, hsP, if_pos z1]
      refine z_aload_n F dX8_readPerson_72 rfl ?_
      refine z_dup F dX8_readPerson_73 rfl ?_
      refine zg_X8_manyPeople F (by with_reducible assumption) fl_X8_148 dX8_readPerson_74 ?_
      rw [R3.2.2.2.2.1]
      refine z_iconst (v := 1) F dX8_readPerson_77 (by decide) ?_
      refine z_iadd F dX8_readPerson_78 ?_
      refine zp_X8_manyPeople F (by with_reducible assumption) fl_X8_148 dX8_readPerson_79 ?_
      refine z_vret F X dX8_readPerson_82 ?_
      rw [nI_1]
      have R4 := R3.mp (m + 1)
      rcases per_end hq with ⟨t1, t2, t3⟩ | ⟨t1, t2, t3, t4, t5⟩
      · rw [t2, t3] at R4
        exact Or.inl ⟨t1, _, R4⟩
      · have e3' := e3 t3
        rw [t3, t4] at R4
        refine Or.inr ⟨t1, _, R4, ?_, ?_⟩
        · rw [peR_up2, peR_up1, peR_up0, t5, e_15 t2, e3']
        · rw [TR_up2, TR_up1, TR_up0, t5]
