/-- a letter and a number, or neither: the number -/
def optF (L : zF1) (len p : Nat) (c most : Int32) : Int32 × Nat := if rdB L len p c then numF L len (rdP L len p c) most else (0, rdP L len p c)
theorem optF_le {L : zF1} {len p : Nat} {c most : Int32} (hp : p ≤ len) (hc : ¬ c = 0) : (optF L len p c most).2 ≤ len := by
  have h1 := rdP_le (L := L) hp hc
  unfold optF
  split
  · exact numF_le h1
  · exact h1
abbrev zK5 : Type := Int32 × Int32 × Int32 × Int32
/-- a thing: whether it stands there, the place; kind, worth, load, care -/
def thiF (L : zF1) (len p : Nat) : Int32 × Nat × zK5 :=
  if kndF (chF L len (nxP L (len - p) p)) < 0 then (0, nxP L (len - p) p, 0, 0, 0, 0) else
  if (numF L len (nxP L (len - p) p + 1) 99).1 < 0 then (0, (numF L len (nxP L (len - p) p + 1) 99).2, 0, 0, 0, 0) else
  if (optF L len (numF L len (nxP L (len - p) p + 1) 99).2 108 30).1 < 0 then (0, (optF L len (numF L len (nxP L (len - p) p + 1) 99).2 108 30).2, 0, 0, 0, 0) else
  if (optF L len (optF L len (numF L len (nxP L (len - p) p + 1) 99).2 108 30).2 99 30).1 < 0 then (0, (optF L len (optF L len (numF L len (nxP L (len - p) p + 1) 99).2 108 30).2 99 30).2, 0, 0, 0, 0) else
  (1, (optF L len (optF L len (numF L len (nxP L (len - p) p + 1) 99).2 108 30).2 99 30).2, kndF (chF L len (nxP L (len - p) p)), (numF L len (nxP L (len - p) p + 1) 99).1, (optF L len (numF L len (nxP L (len - p) p + 1) 99).2 108 30).1, (optF L len (optF L len (numF L len (nxP L (len - p) p + 1) 99).2 108 30).2 99 30).1)
theorem knd_lt {L : zF1} {len q : Nat} (h : ¬ kndF (chF L len q) < 0) : q < len := by
  rcases Nat.lt_or_ge q len with z | z
  · exact z
  · refine absurd ?_ h
    rw [chF, if_neg (by omega)]
    decide
theorem thiF_le {L : zF1} {len p : Nat} (hp : p ≤ len) : (thiF L len p).2.1 ≤ len := by
  have h0 := nxP_le L (len - p) p
  unfold thiF
  split
  · show nxP L (len - p) p ≤ len; omega
  · next hk =>
    have h1 := knd_lt hk
    have h2 := numF_le (L := L) (p := nxP L (len - p) p + 1) (most := 99) (by omega : nxP L (len - p) p + 1 ≤ len)
    have h3 := optF_le (L := L) (c := 108) (most := 30) h2 (by decide)
    have h4 := optF_le (L := L) (c := 99) (most := 30) h3 (by decide)
    split
    · exact h2
    · split
      · exact h3
      · split
        · exact h4
        · exact h4
theorem c_X3_readThing {l : Launch} {w : zE} (J : zJ w) {M : zM} {tp len p n : Nat} (hk : zk tp = 3) (ok : tpOK M tp len p) (hnt : M.1 (tp + 2) 0 = nI n) (hn10 : n < 10) : zCi l w yX3_readThing cX3_readThing 5 (some .boolean) 4 [.ref (w.2.2 tp)] M (fun v M2 => v = (thiF (M.1 (tp + 1)) len p).1 ∧ M2 = if v = 0 then zs M tp 2 (nI (thiF (M.1 (tp + 1)) len p).2.1) else zs (za (zs M tp 2 (nI (thiF (M.1 (tp + 1)) len p).2.1)) (tp + 2 + 1) (setF (M.1 (tp + 2 + 1)) n (thiF (M.1 (tp + 1)) len p).2.2.1 (thiF (M.1 (tp + 1)) len p).2.2.2.1 (thiF (M.1 (tp + 1)) len p).2.2.2.2.1 (thiF (M.1 (tp + 1)) len p).2.2.2.2.2)) (tp + 2) 0 (nI (n + 1))) := by
  obtain ⟨k1, k2, k16⟩ := zkf3 tp (zk_i hk (by decide)) hk
  have hL : ∀ v, (zs M tp 2 v).1 (tp + 1) = M.1 (tp + 1) := fun v => zs_off _ (by omega)
  have hR : ∀ v, (zs M tp 2 v).1 (tp + 2) = M.1 (tp + 2) := fun v => zs_off _ (by omega)
  have hT : ∀ v, (zs M tp 2 v).1 (tp + 2 + 1) = M.1 (tp + 2 + 1) := fun v => zs_off _ (by omega)
  have okr : ∀ q, q ≤ len → tpOK (zs M tp 2 (nI q)) tp len q := fun q hq => ok.to hq
  obtain ⟨c, hc, hcc⟩ := chF_n ok.2.2.2.2 (nxP (M.1 (tp + 1)) (len - p) p)
  refine zCi_of J zm_X3_readThing [some (.ref (w.2.2 tp)), none, none, none, none] (Nat.le_of_ble_eq_true rfl) rfl (fun g hg F X => ?_)
  subst hg
  generalize hq : nxP (M.1 (tp + 1)) (len - p) p = q at hcc
  have hth : thiF (M.1 (tp + 1)) len p = thiF (M.1 (tp + 1)) len p := rfl
  conv at hth => rhs; unfold thiF
  rw [hq, hcc] at hth
  generalize hLL : M.1 (tp + 1) = L at hth hL hcc
  generalize hp2 : numF L len (q + 1) 99 = p2 at hth
  generalize ho1 : optF L len p2.2 108 30 = o1 at hth
  generalize ho2 : optF L len o1.2 99 30 = o2 at hth
  have j84 : 0 ≤ kndF (nI c) → 0 ≤ p2.1 → 0 ≤ o1.1 → ZW w g 5 84 [some (.ref (w.2.2 tp)), some (.int (kndF (nI c))), some (.int p2.1), some (.int o1.1), none] [.int o2.1] (zs M tp 2 (nI o2.2)) := by
    intro a1 a2 a3
    rw [if_neg (nlt a1), if_neg (nlt a2), if_neg (nlt a3)] at hth
    rw [hLL] at X
    refine z_istore (lv' := [_, _, _, _, _]) F dX3_readThing_84 (by decide) rfl rfl ?_
    refine z_iload F dX3_readThing_86 rfl ?_
    refine z_if_ge (tgt := 93) F dX3_readThing_88 (by decide) (fun h_88 => ?_) (fun h_88 => ?_)
    · try simp only [hR] at h_88
      refine z_aload_n F dX3_readThing_93 rfl ?_
      refine zg_X3_road F (by with_reducible assumption) fl_X3_18 dX3_readThing_94 (fun hk_94 => ?_)
      refine z_iload_n F dX3_readThing_97 rfl ?_
      refine z_iload_n F dX3_readThing_98 rfl ?_
      refine z_iload_n F dX3_readThing_99 rfl ?_
      refine z_iload F dX3_readThing_100 rfl ?_
      refine z_callVi F (c_X1_addThing J (by with_reducible assumption) (n := n) (by rw [hR]; exact hnt) hn10) zm_X1_addThing zv_X1_addThing ml_X3_88 (by with_reducible assumption) (by decide) rfl rfl rfl (Nat.le_of_ble_eq_true rfl) dX3_readThing_102 (by omega) (fun r_102 M_102 h_102 => ?_)
      obtain ⟨e_102, rfl⟩ := h_102
      replace e_102 := Eq.symm e_102
      subst e_102
      refine z_pop F dX3_readThing_105 rfl ?_
      refine z_iconst (v := 1) F dX3_readThing_106 (by decide) ?_
      refine z_zret F X dX3_readThing_107 (by decide) ?_
      rw [if_neg (nlt h_88)] at hth
      rw [hth, hT]
      exact ⟨rfl, rfl⟩
    · try simp only [hR] at h_88
      refine z_iconst (v := 0) F dX3_readThing_91 (by decide) ?_
      refine z_zret F X dX3_readThing_92 (by decide) ?_
      rw [if_pos h_88] at hth
      rw [hth]
      exact ⟨rfl, rfl⟩
  have j58 : q < len → 0 ≤ kndF (nI c) → 0 ≤ p2.1 → ZW w g 5 58 [some (.ref (w.2.2 tp)), some (.int (kndF (nI c))), some (.int p2.1), none, none] [.int o1.1] (zs M tp 2 (nI o1.2)) := by
    intro hql a1 a2
    have hl2 : p2.2 ≤ len := by rw [← hp2]; exact numF_le (by omega)
    have hl4 : o1.2 ≤ len := by rw [← ho1]; exact optF_le hl2 (by decide)
    have hl5 := rdP_le (L := L) (c := 99) hl4 (by decide)
    have hth0 := hth
    rw [if_neg (nlt a1), if_neg (nlt a2)] at hth0
    rw [hLL] at X
    refine z_istore_n (lv' := [_, _, _, _, _]) F dX3_readThing_58 (by decide) rfl rfl ?_
    refine z_iload_n F dX3_readThing_59 rfl ?_
    refine z_if_ge (tgt := 65) F dX3_readThing_60 (by decide) (fun h_60 => ?_) (fun h_60 => ?_)
    · try simp only [hL] at h_60
      refine z_aload_n F dX3_readThing_65 rfl ?_
      refine z_bipush (v := 99) F dX3_readThing_66 (by decide) ?_
      refine z_callVi F (c_X3_reads J hk (okr _ hl4)) zm_X3_reads zv_X3_reads ml_X3_57 (by with_reducible assumption) (by decide) rfl rfl rfl (Nat.le_of_ble_eq_true rfl) dX3_readThing_68 (by omega) (fun r_68 M_68 h_68 => ?_)
      obtain ⟨e_68, rfl⟩ := h_68
      replace e_68 := Eq.symm e_68
      subst e_68
      simp only [hL, zs_zs]
      refine z_if_eq (tgt := 83) F dX3_readThing_71 (by decide) (fun h_71 => ?_) (fun h_71 => ?_)
      · replace h_71 := bI_0.mp h_71
        try simp only [hL] at h_71
        refine z_iconst (v := 0) F dX3_readThing_83 (by decide) ?_
        have j := j84 a1 a2 h_60
        have eo : optF L len o1.2 99 30 = (0, rdP L len o1.2 99) := if_neg h_71
        rw [ho2] at eo
        rw [eo] at j
        exact j
      · replace h_71 := bI_1.mp h_71
        try simp only [hL] at h_71
        refine z_aload_n F dX3_readThing_74 rfl ?_
        refine z_bipush (v := 30) F dX3_readThing_75 (by decide) ?_
        refine z_callVi F (c_X3_readNumber J hk (okr _ hl5)) zm_X3_readNumber zv_X3_readNumber ml_X3_85 (by with_reducible assumption) (by decide) rfl rfl rfl (Nat.le_of_ble_eq_true rfl) dX3_readThing_77 (by omega) (fun r_77 M_77 h_77 => ?_)
        obtain ⟨e_77, rfl⟩ := h_77
        replace e_77 := Eq.symm e_77
        subst e_77
        simp only [hL, zs_zs]
        refine z_goto (tgt := 84) F dX3_readThing_80 (by decide) ?_
        have j := j84 a1 a2 h_60
        have eo : optF L len o1.2 99 30 = numF L len (rdP L len o1.2 99) 30 := if_pos h_71
        rw [ho2] at eo
        rw [eo] at j
        exact j
    · try simp only [hL] at h_60
      refine z_iconst (v := 0) F dX3_readThing_63 (by decide) ?_
      refine z_zret F X dX3_readThing_64 (by decide) ?_
      rw [if_pos h_60] at hth0
      rw [hth0]
      exact ⟨rfl, rfl⟩
  rw [hLL] at X hq
  refine z_ldcS F dX3_readThing_0 ?_
  refine z_aload_n F dX3_readThing_2 rfl ?_
  refine z_callVi F (c_X3_next J hk ok) zm_X3_next zv_X3_next ml_X3_61 (by with_reducible assumption) (by decide) rfl rfl rfl (Nat.le_of_ble_eq_true rfl) dX3_readThing_3 (by omega) (fun r_3 M_3 h_3 => ?_)
  obtain ⟨e_3, rfl⟩ := h_3
  replace e_3 := Eq.symm e_3
  subst e_3
  rw [hLL, hq, hcc]
  refine z_callSt F (c_J0_indexOf J hc) zm_J0_indexOf_0f7a4 zv_J0_indexOf_0f7a4 ml_X3_79 rfl rfl rfl (Nat.le_of_ble_eq_true rfl) dX3_readThing_6 (by omega) (fun r_6 M_6 h_6 => ?_)
  obtain ⟨e_6, rfl⟩ := h_6
  replace e_6 := Eq.symm e_6
  subst e_6
  refine z_istore_n (lv' := [_, _, _, _, _]) F dX3_readThing_9 (by decide) rfl rfl ?_
  refine z_iload_n F dX3_readThing_10 rfl ?_
  refine z_if_ge (tgt := 16) F dX3_readThing_11 (by decide) (fun h_11 => ?_) (fun h_11 => ?_)
  · try simp only [zs_at, va_up_self, hL] at h_11
    refine z_aload_n F dX3_readThing_16 rfl ?_
    refine z_dup F dX3_readThing_17 rfl ?_
    refine zg_X3_place F (by with_reducible assumption) fl_X3_29 dX3_readThing_18 ?_
    try simp only [zs_at, va_up_self, hL]
    refine z_iconst (v := 1) F dX3_readThing_21 (by decide) ?_
    refine z_iadd F dX3_readThing_22 ?_
    refine zp_X3_place F (by with_reducible assumption) fl_X3_29 dX3_readThing_23 ?_
    have hql : q < len := knd_lt (L := L) (by rw [hcc]; exact nlt h_11)
    rw [zs_zs, nI_1]
    refine z_aload_n F dX3_readThing_26 rfl ?_
    refine z_bipush (v := 99) F dX3_readThing_27 (by decide) ?_
    refine z_callVi F (c_X3_readNumber J hk (okr (q + 1) hql)) zm_X3_readNumber zv_X3_readNumber ml_X3_85 (by with_reducible assumption) (by decide) rfl rfl rfl (Nat.le_of_ble_eq_true rfl) dX3_readThing_29 (by omega) (fun r_29 M_29 h_29 => ?_)
    obtain ⟨e_29, rfl⟩ := h_29
    replace e_29 := Eq.symm e_29
    subst e_29
    simp only [hL, zs_zs, hp2]
    have hl2 : p2.2 ≤ len := by rw [← hp2]; exact numF_le (by omega)
    have hl3 := rdP_le (L := L) (c := 108) hl2 (by decide)
    refine z_istore_n (lv' := [_, _, _, _, _]) F dX3_readThing_32 (by decide) rfl rfl ?_
    refine z_iload_n F dX3_readThing_33 rfl ?_
    refine z_if_ge (tgt := 39) F dX3_readThing_34 (by decide) (fun h_34 => ?_) (fun h_34 => ?_)
    · try simp only [zs_at, va_up_self, hL] at h_34
      refine z_aload_n F dX3_readThing_39 rfl ?_
      refine z_bipush (v := 108) F dX3_readThing_40 (by decide) ?_
      refine z_callVi F (c_X3_reads J hk (okr _ hl2)) zm_X3_reads zv_X3_reads ml_X3_57 (by with_reducible assumption) (by decide) rfl rfl rfl (Nat.le_of_ble_eq_true rfl) dX3_readThing_42 (by omega) (fun r_42 M_42 h_42 => ?_)
      obtain ⟨e_42, rfl⟩ := h_42
      replace e_42 := Eq.symm e_42
      subst e_42
      simp only [hL, zs_zs]
      refine z_if_eq (tgt := 57) F dX3_readThing_45 (by decide) (fun h_45 => ?_) (fun h_45 => ?_)
      · replace h_45 := bI_0.mp h_45
        try simp only [zs_at, va_up_self, hL] at h_45
        refine z_iconst (v := 0) F dX3_readThing_57 (by decide) ?_
        have j := j58 hql h_11 h_34
        have eo : optF L len p2.2 108 30 = (0, rdP L len p2.2 108) := if_neg h_45
        rw [ho1] at eo
        rw [eo] at j
        exact j
      · replace h_45 := bI_1.mp h_45
        try simp only [zs_at, va_up_self, hL] at h_45
        refine z_aload_n F dX3_readThing_48 rfl ?_
        refine z_bipush (v := 30) F dX3_readThing_49 (by decide) ?_
        refine z_callVi F (c_X3_readNumber J hk (okr _ hl3)) zm_X3_readNumber zv_X3_readNumber ml_X3_85 (by with_reducible assumption) (by decide) rfl rfl rfl (Nat.le_of_ble_eq_true rfl) dX3_readThing_51 (by omega) (fun r_51 M_51 h_51 => ?_)
        obtain ⟨e_51, rfl⟩ := h_51
        replace e_51 := Eq.symm e_51
        subst e_51
        simp only [hL, zs_zs]
        refine z_goto (tgt := 58) F dX3_readThing_54 (by decide) ?_
        have j := j58 hql h_11 h_34
        have eo : optF L len p2.2 108 30 = numF L len (rdP L len p2.2 108) 30 := if_pos h_45
        rw [ho1] at eo
        rw [eo] at j
        exact j
    · try simp only [zs_at, va_up_self, hL] at h_34
      refine z_iconst (v := 0) F dX3_readThing_37 (by decide) ?_
      refine z_zret F X dX3_readThing_38 (by decide) ?_
      rw [if_neg (nlt h_11), if_pos h_34] at hth
      rw [hth]
      exact ⟨rfl, rfl⟩
  · try simp only [zs_at, va_up_self, hL] at h_11
    refine z_iconst (v := 0) F dX3_readThing_14 (by decide) ?_
    refine z_zret F X dX3_readThing_15 (by decide) ?_
    rw [if_pos h_11] at hth
    rw [hth]
    exact ⟨rfl, rfl⟩
