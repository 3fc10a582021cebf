/-- a thing's digit, if nobody has it yet; or -1 -/
def freeF (L : zF1) (len p : Nat) (nt : Int32) (T : zF1) (np : Nat) : Int32 × Nat :=
  if (0 ≤ chF L len (nxP L (len - p) p) - 48 ∧ chF L len (nxP L (len - p) p) - 48 < nt) ∧ whoF T np (chF L len (nxP L (len - p) p) - 48) = -4 then (chF L len (nxP L (len - p) p) - 48, nxP L (len - p) p + 1) else (-1, nxP L (len - p) p)
theorem freeF_le {L : zF1} {len p np : Nat} {nt : Int32} {T : zF1} (hp : p ≤ len) : (freeF L len p nt T np).2 ≤ len := by
  have := nxP_le L (len - p) p
  unfold freeF
  split
  · next h =>
    show nxP L (len - p) p + 1 ≤ len
    have h1 := h.1.1
    unfold chF at h1
    split at h1
    · omega
    · exact absurd h1 (by decide)
  · show nxP L (len - p) p ≤ len; omega
theorem c_X3_readFreeThing {l : Launch} {w : zE} (J : zJ w) {M : zM} {tp len p np : Nat} (hk : zk tp = 3) (ok : tpOK M tp len p) (hnp : M.1 (tp + 2) 1 = nI np) (hnp9 : np ≤ 8) : zCi l w yX3_readFreeThing cX3_readFreeThing 2 (some .int) 1 [.ref (w.2.2 tp)] M (fun v M2 => M2 = zs M tp 2 (nI (freeF (M.1 (tp + 1)) len p (M.1 (tp + 2) 0) (M.1 (tp + 16)) np).2) ∧ v = (freeF (M.1 (tp + 1)) len p (M.1 (tp + 2) 0) (M.1 (tp + 16)) np).1) := by
  obtain ⟨k1, k2, k16⟩ := zkf3 tp (zk_i hk (by decide)) hk
  refine zCi_of J zm_X3_readFreeThing [some (.ref (w.2.2 tp)), none] (Nat.le_of_ble_eq_true rfl) rfl (fun g hg F X => ?_)
  subst hg
  refine z_aload_n F dX3_readFreeThing_0 rfl ?_
  refine z_callVi F (c_X3_next J hk ok) zm_X3_next zv_X3_next ml_X3_61 (by with_reducible assumption) (by decide) rfl rfl rfl (Nat.le_of_ble_eq_true rfl) dX3_readFreeThing_1 (by omega) (fun r_1 M_1 h_1 => ?_)
  obtain ⟨e_1, rfl⟩ := h_1
  replace e_1 := Eq.symm e_1
  subst e_1
  refine z_bipush (v := 48) F dX3_readFreeThing_4 (by decide) ?_
  refine z_isub F dX3_readFreeThing_6 ?_
  refine z_istore_n (lv' := [_, _]) F dX3_readFreeThing_7 (by decide) rfl rfl ?_
  refine z_aload_n F dX3_readFreeThing_8 rfl ?_
  refine zg_X3_road F (by with_reducible assumption) fl_X3_18 dX3_readFreeThing_9 (fun hk_9 => ?_)
  refine z_iload_n F dX3_readFreeThing_12 rfl ?_
  refine z_callVi F (c_X1_isThing J (by with_reducible assumption)) zm_X1_isThing zv_X1_isThing ml_X3_115 (by with_reducible assumption) (by decide) rfl rfl rfl (Nat.le_of_ble_eq_true rfl) dX3_readFreeThing_13 (by omega) (fun r_13 M_13 h_13 => ?_)
  obtain ⟨e_13, rfl⟩ := h_13
  replace e_13 := Eq.symm e_13
  subst e_13
  refine z_if_eq (tgt := 36) F dX3_readFreeThing_16 (by decide) (fun h_16 => ?_) (fun h_16 => ?_)
  · replace h_16 := bI_0.mp h_16
    try simp only [zs_at, va_up_self, zs_off _ (show tp + 16 ≠ tp by omega), zs_off _ (show tp + 2 ≠ tp by omega)] at h_16
    refine z_iconst (v := (-1)) F dX3_readFreeThing_36 (by decide) ?_
    refine z_iret F X dX3_readFreeThing_37 ?_
    have e : freeF (M.1 (tp + 1)) len p (M.1 (tp + 2) 0) (M.1 (tp + 16)) np = (-1, nxP (M.1 (tp + 1)) (len - p) p) := if_neg (fun q => h_16 q.1)
    rw [e]
    exact ⟨rfl, rfl⟩
  · replace h_16 := bI_1.mp h_16
    try simp only [zs_at, va_up_self, zs_off _ (show tp + 16 ≠ tp by omega), zs_off _ (show tp + 2 ≠ tp by omega)] at h_16
    refine z_aload_n F dX3_readFreeThing_19 rfl ?_
    refine zg_X3_road F (by with_reducible assumption) fl_X3_18 dX3_readFreeThing_20 (fun hk_20 => ?_)
    refine z_iload_n F dX3_readFreeThing_23 rfl ?_
    refine z_aload_n F dX3_readFreeThing_24 rfl ?_
    refine zg_X3_trip F (by with_reducible assumption) fl_X3_25 dX3_readFreeThing_25 (fun hk_25 => ?_)
    refine z_callVi F (c_X1_whoHas J (by with_reducible assumption) (by with_reducible assumption) (np := np) (by rw [zs_off _ (by omega)]; exact hnp) (by omega)) zm_X1_whoHas zv_X1_whoHas ml_X3_119 (by with_reducible assumption) (by decide) rfl rfl rfl (Nat.le_of_ble_eq_true rfl) dX3_readFreeThing_28 (by omega) (fun r_28 M_28 h_28 => ?_)
    obtain ⟨e_28, rfl⟩ := h_28
    replace e_28 := Eq.symm e_28
    subst e_28
    refine z_bipush (v := (-4)) F dX3_readFreeThing_31 (by decide) ?_
    refine z_ic_eq (tgt := 38) F dX3_readFreeThing_33 (by decide) (fun h_33 => ?_) (fun h_33 => ?_)
    · try simp only [zs_at, va_up_self, zs_off _ (show tp + 16 ≠ tp by omega), zs_off _ (show tp + 2 ≠ tp by omega)] at h_33
      refine z_aload_n F dX3_readFreeThing_38 rfl ?_
      refine z_dup F dX3_readFreeThing_39 rfl ?_
      refine zg_X3_place F (by with_reducible assumption) fl_X3_29 dX3_readFreeThing_40 ?_
      try simp only [zs_at, va_up_self, zs_off _ (show tp + 16 ≠ tp by omega), zs_off _ (show tp + 2 ≠ tp by omega)]
      refine z_iconst (v := 1) F dX3_readFreeThing_43 (by decide) ?_
      refine z_iadd F dX3_readFreeThing_44 ?_
      refine zp_X3_place F (by with_reducible assumption) fl_X3_29 dX3_readFreeThing_45 ?_
      refine z_iload_n F dX3_readFreeThing_48 rfl ?_
      refine z_iret F X dX3_readFreeThing_49 ?_
      rw [zs_zs, nI_1]
      have e : freeF (M.1 (tp + 1)) len p (M.1 (tp + 2) 0) (M.1 (tp + 16)) np = (chF (M.1 (tp + 1)) len (nxP (M.1 (tp + 1)) (len - p) p) - 48, nxP (M.1 (tp + 1)) (len - p) p + 1) := if_pos ⟨h_16, h_33⟩
      rw [e]
      exact ⟨rfl, rfl⟩
    · try simp only [zs_at, va_up_self, zs_off _ (show tp + 16 ≠ tp by omega), zs_off _ (show tp + 2 ≠ tp by omega)] at h_33
      refine z_iconst (v := (-1)) F dX3_readFreeThing_36 (by decide) ?_
      refine z_iret F X dX3_readFreeThing_37 ?_
      have e : freeF (M.1 (tp + 1)) len p (M.1 (tp + 2) 0) (M.1 (tp + 16)) np = (-1, nxP (M.1 (tp + 1)) (len - p) p) := if_neg (fun q => h_33 q.2)
      rw [e]
      exact ⟨rfl, rfl⟩
/-- what he has: whether it stands there, the place, the thing -/
def hisF (L : zF1) (len p : Nat) (nt : Int32) (T : zF1) (np : Nat) : Int32 × Nat × Int32 :=
  if rdB L len p 61 then (if (freeF L len (rdP L len p 61) nt T np).1 < 0 then (0, (freeF L len (rdP L len p 61) nt T np).2, 0) else (1, (freeF L len (rdP L len p 61) nt T np).2, (freeF L len (rdP L len p 61) nt T np).1)) else (0, rdP L len p 61, 0)
theorem c_X3_readHis {l : Launch} {w : zE} (J : zJ w) {M : zM} {tp len p np : Nat} (hk : zk tp = 3) (ok : tpOK M tp len p) (hnp : M.1 (tp + 2) 1 = nI np) (hnp9 : np ≤ 8) : zCi l w yX3_readHis cX3_readHis 2 (some .boolean) 2 [.ref (w.2.2 tp)] M (fun v M2 => v = (hisF (M.1 (tp + 1)) len p (M.1 (tp + 2) 0) (M.1 (tp + 16)) np).1 ∧ M2 = if v = 0 then zs M tp 2 (nI (hisF (M.1 (tp + 1)) len p (M.1 (tp + 2) 0) (M.1 (tp + 16)) np).2.1) else zs (zs M tp 2 (nI (hisF (M.1 (tp + 1)) len p (M.1 (tp + 2) 0) (M.1 (tp + 16)) np).2.1)) (tp + 16) 0 (hisF (M.1 (tp + 1)) len p (M.1 (tp + 2) 0) (M.1 (tp + 16)) np).2.2) := by
  obtain ⟨k1, k2, k16⟩ := zkf3 tp (zk_i hk (by decide)) hk
  have ok2 := ok.to (rdP_le (L := M.1 (tp + 1)) (c := 61) ok.2.2.2.1 (by decide))
  refine zCi_of J zm_X3_readHis [some (.ref (w.2.2 tp)), none] (Nat.le_of_ble_eq_true rfl) rfl (fun g hg F X => ?_)
  subst hg
  refine z_aload_n F dX3_readHis_0 rfl ?_
  refine z_bipush (v := 61) F dX3_readHis_1 (by decide) ?_
  refine z_callVi F (c_X3_reads J hk ok) zm_X3_reads zv_X3_reads ml_X3_57 (by with_reducible assumption) (by decide) rfl rfl rfl (Nat.le_of_ble_eq_true rfl) dX3_readHis_3 (by omega) (fun r_3 M_3 h_3 => ?_)
  obtain ⟨e_3, rfl⟩ := h_3
  replace e_3 := Eq.symm e_3
  subst e_3
  refine z_if_ne (tgt := 11) F dX3_readHis_6 (by decide) (fun h_6 => ?_) (fun h_6 => ?_)
  · replace h_6 := bI_1.mp h_6
    refine z_aload_n F dX3_readHis_11 rfl ?_
    refine z_callVi F (c_X3_readFreeThing J hk ok2 (np := np) (by rw [zs_off _ (by omega)]; exact hnp) hnp9) zm_X3_readFreeThing zv_X3_readFreeThing ml_X3_95 (by with_reducible assumption) (by decide) rfl rfl rfl (Nat.le_of_ble_eq_true rfl) dX3_readHis_12 (by omega) (fun r_12 M_12 h_12 => ?_)
    obtain ⟨e_12, rfl⟩ := h_12
    replace e_12 := Eq.symm e_12
    subst e_12
    simp only [zs_off _ (show tp + 1 ≠ tp by omega), zs_off _ (show tp + 2 ≠ tp by omega), zs_off _ (show tp + 16 ≠ tp by omega), zs_zs]
    refine z_istore_n (lv' := [_, _]) F dX3_readHis_15 (by decide) rfl rfl ?_
    refine z_iload_n F dX3_readHis_16 rfl ?_
    refine z_if_ge (tgt := 22) F dX3_readHis_17 (by decide) (fun h_17 => ?_) (fun h_17 => ?_)
    · refine z_aload_n F dX3_readHis_22 rfl ?_
      refine zg_X3_trip F (by with_reducible assumption) fl_X3_25 dX3_readHis_23 (fun hk_23 => ?_)
      refine z_iload_n F dX3_readHis_26 rfl ?_
      refine zp_X5_his F (by with_reducible assumption) fl_X3_103 dX3_readHis_27 ?_
      refine z_iconst (v := 1) F dX3_readHis_30 (by decide) ?_
      refine z_zret F X dX3_readHis_31 (by decide) ?_
      rw [hisF, if_pos h_6, if_neg (nlt h_17)]
      exact ⟨rfl, rfl⟩
    · refine z_iconst (v := 0) F dX3_readHis_20 (by decide) ?_
      refine z_zret F X dX3_readHis_21 (by decide) ?_
      rw [hisF, if_pos h_6, if_pos h_17]
      exact ⟨rfl, rfl⟩
  · replace h_6 := bI_0.mp h_6
    refine z_iconst (v := 0) F dX3_readHis_9 (by decide) ?_
    refine z_zret F X dX3_readHis_10 (by decide) ?_
    rw [hisF, if_neg h_6]
    exact ⟨rfl, rfl⟩
def perG (L : zF1) (len : Nat) (t : Int32 × Nat) (m : Int32) : Int32 × Nat × Int32 × Int32 × Int32 :=
  if rdB L len t.2 43 then (if (numF L len (rdP L len t.2 43) 20).1 < 0 then (0, (numF L len (rdP L len t.2 43) 20).2, 0, 0, 0) else (1, (numF L len (rdP L len t.2 43) 20).2, m, (numF L len (rdP L len t.2 43) 20).1, t.1)) else (1, rdP L len t.2 43, m, 0, t.1)
/-- a person: whether it stands there, the place; milestone, margin, thing -/
def perF (L : zF1) (len p : Nat) (nt : Int32) (T : zF1) (np : Nat) : Int32 × Nat × Int32 × Int32 × Int32 :=
  if (numF L len p 11).1 < 0 then (0, (numF L len p 11).2, 0, 0, 0) else
  if rdB L len (numF L len p 11).2 61 ∧ (freeF L len (rdP L len (numF L len p 11).2 61) nt T np).1 < 0 then (0, (freeF L len (rdP L len (numF L len p 11).2 61) nt T np).2, 0, 0, 0) else
  perG L len (if rdB L len (numF L len p 11).2 61 then (freeF L len (rdP L len (numF L len p 11).2 61) nt T np) else (-4, rdP L len (numF L len p 11).2 61)) (numF L len p 11).1
theorem c_X3_readPerson {l : Launch} {w : zE} (J : zJ w) {M : zM} {tp len p np : Nat} (hk : zk tp = 3) (ok : tpOK M tp len p) (hnp : M.1 (tp + 2) 1 = nI np) (hnp9 : np < 8) : zCi l w yX3_readPerson cX3_readPerson 4 (some .boolean) 2 [.ref (w.2.2 tp)] M (fun v M2 => v = (perF (M.1 (tp + 1)) len p (M.1 (tp + 2) 0) (M.1 (tp + 16)) np).1 ∧ M2 = if v = 0 then zs M tp 2 (nI (perF (M.1 (tp + 1)) len p (M.1 (tp + 2) 0) (M.1 (tp + 16)) np).2.1) else zs (zs (zs (zs (zs M tp 2 (nI (perF (M.1 (tp + 1)) len p (M.1 (tp + 2) 0) (M.1 (tp + 16)) np).2.1)) (tp + 2 + 12) (2 * np) (perF (M.1 (tp + 1)) len p (M.1 (tp + 2) 0) (M.1 (tp + 16)) np).2.2.1) (tp + 2 + 12) (2 * np + 1) (perF (M.1 (tp + 1)) len p (M.1 (tp + 2) 0) (M.1 (tp + 16)) np).2.2.2.1) (tp + 16) (5 + np) (perF (M.1 (tp + 1)) len p (M.1 (tp + 2) 0) (M.1 (tp + 16)) np).2.2.2.2) (tp + 2) 1 (nI (np + 1))) := by
  obtain ⟨k1, k2, k16⟩ := zkf3 tp (zk_i hk (by decide)) hk
  have ok1 := ok.to (numF_le (L := M.1 (tp + 1)) (most := 11) ok.2.2.2.1)
  have hL : ∀ v, (zs M tp 2 v).1 (tp + 1) = M.1 (tp + 1) := fun v => zs_off _ (by omega)
  have hR : ∀ v, (zs M tp 2 v).1 (tp + 2) = M.1 (tp + 2) := fun v => zs_off _ (by omega)
  have hT : ∀ v, (zs M tp 2 v).1 (tp + 16) = M.1 (tp + 16) := fun v => zs_off _ (by omega)
  have ok2 := ok.to (rdP_le (L := M.1 (tp + 1)) (p := (numF (M.1 (tp + 1)) len p 11).2) (c := 61) ok1.2.2.2.1 (by decide))
  have ok3 := ok.to (freeF_le (L := M.1 (tp + 1)) (p := rdP (M.1 (tp + 1)) len (numF (M.1 (tp + 1)) len p 11).2 61) (nt := M.1 (tp + 2) 0) (T := M.1 (tp + 16)) (np := np) ok2.2.2.2.1)
  have okr : ∀ q, q ≤ len → tpOK (zs M tp 2 (nI (rdP (M.1 (tp + 1)) len q 43))) tp len (rdP (M.1 (tp + 1)) len q 43) := fun q hq => ok.to (rdP_le hq (by decide))
  refine zCi_of J zm_X3_readPerson [some (.ref (w.2.2 tp)), none, none, none] (Nat.le_of_ble_eq_true rfl) rfl (fun g hg F X => ?_)
  subst hg
  refine z_aload_n F dX3_readPerson_0 rfl ?_
  refine z_bipush (v := 11) F dX3_readPerson_1 (by decide) ?_
  refine z_callVi F (c_X3_readNumber J hk ok) zm_X3_readNumber zv_X3_readNumber ml_X3_85 (by with_reducible assumption) (by decide) rfl rfl rfl (Nat.le_of_ble_eq_true rfl) dX3_readPerson_3 (by omega) (fun r_3 M_3 h_3 => ?_)
  obtain ⟨e_3, rfl⟩ := h_3
  replace e_3 := Eq.symm e_3
  subst e_3
  refine z_istore_n (lv' := [_, _, _, _]) F dX3_readPerson_6 (by decide) rfl rfl ?_
  refine z_iload_n F dX3_readPerson_7 rfl ?_
  refine z_if_ge (tgt := 13) F dX3_readPerson_8 (by decide) (fun h_8 => ?_) (fun h_8 => ?_)
  · try simp only [hL, hR, hT, zs_zs] at h_8
    refine z_bipush (v := (-4)) F dX3_readPerson_13 (by decide) ?_
    refine z_istore_n (lv' := [_, _, _, _]) F dX3_readPerson_15 (by decide) rfl rfl ?_
    refine z_aload_n F dX3_readPerson_16 rfl ?_
    refine z_bipush (v := 61) F dX3_readPerson_17 (by decide) ?_
    refine z_callVi F (c_X3_reads J hk ok1) zm_X3_reads zv_X3_reads ml_X3_57 (by with_reducible assumption) (by decide) rfl rfl rfl (Nat.le_of_ble_eq_true rfl) dX3_readPerson_19 (by omega) (fun r_19 M_19 h_19 => ?_)
    obtain ⟨e_19, rfl⟩ := h_19
    replace e_19 := Eq.symm e_19
    subst e_19
    simp only [hL, zs_zs]
    refine z_if_eq (tgt := 36) F dX3_readPerson_22 (by decide) (fun h_22 => ?_) (fun h_22 => ?_)
    · replace h_22 := bI_0.mp h_22
      try simp only [hL, hR, hT, zs_zs] at h_22
      refine z_aload_n F dX3_readPerson_36 rfl ?_
      refine z_bipush (v := 43) F dX3_readPerson_37 (by decide) ?_
      refine z_callVi F (c_X3_reads J hk (by first | exact ok3 | exact ok2)) zm_X3_reads zv_X3_reads ml_X3_57 (by with_reducible assumption) (by decide) rfl rfl rfl (Nat.le_of_ble_eq_true rfl) dX3_readPerson_39 (by omega) (fun r_39 M_39 h_39 => ?_)
      obtain ⟨e_39, rfl⟩ := h_39
      replace e_39 := Eq.symm e_39
      subst e_39
      simp only [hL, zs_zs]
      refine z_if_eq (tgt := 54) F dX3_readPerson_42 (by decide) (fun h_42 => ?_) (fun h_42 => ?_)
      · replace h_42 := bI_0.mp h_42
        try simp only [hL, hR, hT, zs_zs] at h_42
        refine z_iconst (v := 0) F dX3_readPerson_54 (by decide) ?_
        refine z_istore_n (lv' := [_, _, _, _]) F dX3_readPerson_55 (by decide) rfl rfl ?_
        refine z_iload_n F dX3_readPerson_56 rfl ?_
        refine z_if_ge (tgt := 62) F dX3_readPerson_57 (by decide) (fun h_57 => ?_) (fun h_57 => absurd h_57 (by decide))
        refine z_aload_n F dX3_readPerson_62 rfl ?_
        refine zg_X3_road F (by with_reducible assumption) fl_X3_18 dX3_readPerson_63 (fun hk_63 => ?_)
        refine z_iload_n F dX3_readPerson_66 rfl ?_
        refine z_iload_n F dX3_readPerson_67 rfl ?_
        refine z_iload_n F dX3_readPerson_68 rfl ?_
        refine z_aload_n F dX3_readPerson_69 rfl ?_
        refine zg_X3_trip F (by with_reducible assumption) fl_X3_25 dX3_readPerson_70 (fun hk_70 => ?_)
        refine z_callVi F (c_X1_addPerson J (by with_reducible assumption) (by with_reducible assumption) (n := np) (by rw [hR]; exact hnp) (by omega)) zm_X1_addPerson zv_X1_addPerson ml_X3_99 (by with_reducible assumption) (by decide) rfl rfl rfl (Nat.le_of_ble_eq_true rfl) dX3_readPerson_73 (by omega) (fun r_73 M_73 h_73 => ?_)
        obtain ⟨e_73, rfl⟩ := h_73
        replace e_73 := Eq.symm e_73
        subst e_73
        refine z_pop F dX3_readPerson_76 rfl ?_
        refine z_iconst (v := 1) F dX3_readPerson_77 (by decide) ?_
        refine z_zret F X dX3_readPerson_78 (by decide) ?_
        rw [perF, if_neg (nlt h_8), if_neg (fun q => h_22 q.1), if_neg h_22, perG, if_neg h_42]
        exact ⟨rfl, rfl⟩
      · replace h_42 := bI_1.mp h_42
        try simp only [hL, hR, hT, zs_zs] at h_42
        refine z_aload_n F dX3_readPerson_45 rfl ?_
        refine z_bipush (v := 20) F dX3_readPerson_46 (by decide) ?_
        refine z_callVi F (c_X3_readNumber J hk (okr _ (by first | exact ok3.2.2.2.1 | exact ok2.2.2.2.1))) zm_X3_readNumber zv_X3_readNumber ml_X3_85 (by with_reducible assumption) (by decide) rfl rfl rfl (Nat.le_of_ble_eq_true rfl) dX3_readPerson_48 (by omega) (fun r_48 M_48 h_48 => ?_)
        obtain ⟨e_48, rfl⟩ := h_48
        replace e_48 := Eq.symm e_48
        subst e_48
        simp only [hL, zs_zs]
        refine z_goto (tgt := 55) F dX3_readPerson_51 (by decide) ?_
        refine z_istore_n (lv' := [_, _, _, _]) F dX3_readPerson_55 (by decide) rfl rfl ?_
        refine z_iload_n F dX3_readPerson_56 rfl ?_
        refine z_if_ge (tgt := 62) F dX3_readPerson_57 (by decide) (fun h_57 => ?_) (fun h_57 => ?_)
        · try simp only [hL, hR, hT, zs_zs] at h_57
          refine z_aload_n F dX3_readPerson_62 rfl ?_
          refine zg_X3_road F (by with_reducible assumption) fl_X3_18 dX3_readPerson_63 (fun hk_63 => ?_)
          refine z_iload_n F dX3_readPerson_66 rfl ?_
          refine z_iload_n F dX3_readPerson_67 rfl ?_
          refine z_iload_n F dX3_readPerson_68 rfl ?_
          refine z_aload_n F dX3_readPerson_69 rfl ?_
          refine zg_X3_trip F (by with_reducible assumption) fl_X3_25 dX3_readPerson_70 (fun hk_70 => ?_)
          refine z_callVi F (c_X1_addPerson J (by with_reducible assumption) (by with_reducible assumption) (n := np) (by rw [hR]; exact hnp) (by omega)) zm_X1_addPerson zv_X1_addPerson ml_X3_99 (by with_reducible assumption) (by decide) rfl rfl rfl (Nat.le_of_ble_eq_true rfl) dX3_readPerson_73 (by omega) (fun r_73 M_73 h_73 => ?_)
          obtain ⟨e_73, rfl⟩ := h_73
          replace e_73 := Eq.symm e_73
          subst e_73
          refine z_pop F dX3_readPerson_76 rfl ?_
          refine z_iconst (v := 1) F dX3_readPerson_77 (by decide) ?_
          refine z_zret F X dX3_readPerson_78 (by decide) ?_
          rw [perF, if_neg (nlt h_8), if_neg (fun q => h_22 q.1), if_neg h_22, perG, if_pos h_42, if_neg (nlt h_57)]
          exact ⟨rfl, rfl⟩
        · try simp only [hL, hR, hT, zs_zs] at h_57
          refine z_iconst (v := 0) F dX3_readPerson_60 (by decide) ?_
          refine z_zret F X dX3_readPerson_61 (by decide) ?_
          rw [perF, if_neg (nlt h_8), if_neg (fun q => h_22 q.1), if_neg h_22, perG, if_pos h_42, if_pos h_57]
          exact ⟨rfl, rfl⟩
    · replace h_22 := bI_1.mp h_22
      try simp only [hL, hR, hT, zs_zs] at h_22
      refine z_aload_n F dX3_readPerson_25 rfl ?_
      refine z_callVi F (c_X3_readFreeThing J hk ok2 (np := np) (by rw [hR]; exact hnp) (by omega)) zm_X3_readFreeThing zv_X3_readFreeThing ml_X3_95 (by with_reducible assumption) (by decide) rfl rfl rfl (Nat.le_of_ble_eq_true rfl) dX3_readPerson_26 (by omega) (fun r_26 M_26 h_26 => ?_)
      obtain ⟨e_26, rfl⟩ := h_26
      replace e_26 := Eq.symm e_26
      subst e_26
      simp only [hL, hR, hT, zs_zs]
      refine z_istore_n (lv' := [_, _, _, _]) F dX3_readPerson_29 (by decide) rfl rfl ?_
      refine z_iload_n F dX3_readPerson_30 rfl ?_
      refine z_if_ge (tgt := 36) F dX3_readPerson_31 (by decide) (fun h_31 => ?_) (fun h_31 => ?_)
      · try simp only [hL, hR, hT, zs_zs] at h_31
        refine z_aload_n F dX3_readPerson_36 rfl ?_
        refine z_bipush (v := 43) F dX3_readPerson_37 (by decide) ?_
        refine z_callVi F (c_X3_reads J hk (by first | exact ok3 | exact ok2)) zm_X3_reads zv_X3_reads ml_X3_57 (by with_reducible assumption) (by decide) rfl rfl rfl (Nat.le_of_ble_eq_true rfl) dX3_readPerson_39 (by omega) (fun r_39 M_39 h_39 => ?_)
        obtain ⟨e_39, rfl⟩ := h_39
        replace e_39 := Eq.symm e_39
        subst e_39
        simp only [hL, zs_zs]
        refine z_if_eq (tgt := 54) F dX3_readPerson_42 (by decide) (fun h_42 => ?_) (fun h_42 => ?_)
        · replace h_42 := bI_0.mp h_42
          try simp only [hL, hR, hT, zs_zs] at h_42
          refine z_iconst (v := 0) F dX3_readPerson_54 (by decide) ?_
          refine z_istore_n (lv' := [_, _, _, _]) F dX3_readPerson_55 (by decide) rfl rfl ?_
          refine z_iload_n F dX3_readPerson_56 rfl ?_
          refine z_if_ge (tgt := 62) F dX3_readPerson_57 (by decide) (fun h_57 => ?_) (fun h_57 => absurd h_57 (by decide))
          refine z_aload_n F dX3_readPerson_62 rfl ?_
          refine zg_X3_road F (by with_reducible assumption) fl_X3_18 dX3_readPerson_63 (fun hk_63 => ?_)
          refine z_iload_n F dX3_readPerson_66 rfl ?_
          refine z_iload_n F dX3_readPerson_67 rfl ?_
          refine z_iload_n F dX3_readPerson_68 rfl ?_
          refine z_aload_n F dX3_readPerson_69 rfl ?_
          refine zg_X3_trip F (by with_reducible assumption) fl_X3_25 dX3_readPerson_70 (fun hk_70 => ?_)
          refine z_callVi F (c_X1_addPerson J (by with_reducible assumption) (by with_reducible assumption) (n := np) (by rw [hR]; exact hnp) (by omega)) zm_X1_addPerson zv_X1_addPerson ml_X3_99 (by with_reducible assumption) (by decide) rfl rfl rfl (Nat.le_of_ble_eq_true rfl) dX3_readPerson_73 (by omega) (fun r_73 M_73 h_73 => ?_)
          obtain ⟨e_73, rfl⟩ := h_73
          replace e_73 := Eq.symm e_73
          subst e_73
          refine z_pop F dX3_readPerson_76 rfl ?_
          refine z_iconst (v := 1) F dX3_readPerson_77 (by decide) ?_
          refine z_zret F X dX3_readPerson_78 (by decide) ?_
          rw [perF, if_neg (nlt h_8), if_neg (fun q => nlt h_31 q.2), if_pos h_22, perG, if_neg h_42]
          exact ⟨rfl, rfl⟩
        · replace h_42 := bI_1.mp h_42
          try simp only [hL, hR, hT, zs_zs] at h_42
          refine z_aload_n F dX3_readPerson_45 rfl ?_
          refine z_bipush (v := 20) F dX3_readPerson_46 (by decide) ?_
          refine z_callVi F (c_X3_readNumber J hk (okr _ (by first | exact ok3.2.2.2.1 | exact ok2.2.2.2.1))) zm_X3_readNumber zv_X3_readNumber ml_X3_85 (by with_reducible assumption) (by decide) rfl rfl rfl (Nat.le_of_ble_eq_true rfl) dX3_readPerson_48 (by omega) (fun r_48 M_48 h_48 => ?_)
          obtain ⟨e_48, rfl⟩ := h_48
          replace e_48 := Eq.symm e_48
          subst e_48
          simp only [hL, zs_zs]
          refine z_goto (tgt := 55) F dX3_readPerson_51 (by decide) ?_
          refine z_istore_n (lv' := [_, _, _, _]) F dX3_readPerson_55 (by decide) rfl rfl ?_
          refine z_iload_n F dX3_readPerson_56 rfl ?_
          refine z_if_ge (tgt := 62) F dX3_readPerson_57 (by decide) (fun h_57 => ?_) (fun h_57 => ?_)
          · try simp only [hL, hR, hT, zs_zs] at h_57
            refine z_aload_n F dX3_readPerson_62 rfl ?_
            refine zg_X3_road F (by with_reducible assumption) fl_X3_18 dX3_readPerson_63 (fun hk_63 => ?_)
            refine z_iload_n F dX3_readPerson_66 rfl ?_
            refine z_iload_n F dX3_readPerson_67 rfl ?_
            refine z_iload_n F dX3_readPerson_68 rfl ?_
            refine z_aload_n F dX3_readPerson_69 rfl ?_
            refine zg_X3_trip F (by with_reducible assumption) fl_X3_25 dX3_readPerson_70 (fun hk_70 => ?_)
            refine z_callVi F (c_X1_addPerson J (by with_reducible assumption) (by with_reducible assumption) (n := np) (by rw [hR]; exact hnp) (by omega)) zm_X1_addPerson zv_X1_addPerson ml_X3_99 (by with_reducible assumption) (by decide) rfl rfl rfl (Nat.le_of_ble_eq_true rfl) dX3_readPerson_73 (by omega) (fun r_73 M_73 h_73 => ?_)
            obtain ⟨e_73, rfl⟩ := h_73
            replace e_73 := Eq.symm e_73
            subst e_73
            refine z_pop F dX3_readPerson_76 rfl ?_
            refine z_iconst (v := 1) F dX3_readPerson_77 (by decide) ?_
            refine z_zret F X dX3_readPerson_78 (by decide) ?_
            rw [perF, if_neg (nlt h_8), if_neg (fun q => nlt h_31 q.2), if_pos h_22, perG, if_pos h_42, if_neg (nlt h_57)]
            exact ⟨rfl, rfl⟩
          · try simp only [hL, hR, hT, zs_zs] at h_57
            refine z_iconst (v := 0) F dX3_readPerson_60 (by decide) ?_
            refine z_zret F X dX3_readPerson_61 (by decide) ?_
            rw [perF, if_neg (nlt h_8), if_neg (fun q => nlt h_31 q.2), if_pos h_22, perG, if_pos h_42, if_pos h_57]
            exact ⟨rfl, rfl⟩
      · try simp only [hL, hR, hT, zs_zs] at h_31
        refine z_iconst (v := 0) F dX3_readPerson_34 (by decide) ?_
        refine z_zret F X dX3_readPerson_35 (by decide) ?_
        rw [perF, if_neg (nlt h_8), if_pos ⟨h_22, h_31⟩]
        exact ⟨rfl, rfl⟩
  · try simp only [hL, hR, hT, zs_zs] at h_8
    refine z_iconst (v := 0) F dX3_readPerson_11 (by decide) ?_
    refine z_zret F X dX3_readPerson_12 (by decide) ?_
    rw [perF, if_pos h_8]
    exact ⟨rfl, rfl⟩
