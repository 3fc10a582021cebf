abbrev zZ3 : Type := Nat × Nat × zF1
/-- the tape's place, its things -/
def tpZ (M : zM) (tp : Nat) (Z : zZ3) : zM := zs (zs (za M (tp + 2 + 1) Z.2.2) (tp + 2) 0 (nI Z.2.1)) tp 2 (nI Z.1)
theorem tpZ_tp (M : zM) (tp : Nat) (Z : zZ3) : (tpZ M tp Z).1 tp = va_up (M.1 tp) 2 (nI Z.1) := by unfold tpZ; rw [zs_at, zs_off _ (by omega), za_off _ (by omega)]
theorem tpZ_L (M : zM) (tp : Nat) (Z : zZ3) : (tpZ M tp Z).1 (tp + 1) = M.1 (tp + 1) := by unfold tpZ; rw [zs_off _ (by omega), zs_off _ (by omega), za_off _ (by omega)]
theorem tpZ_rb (M : zM) (tp : Nat) (Z : zZ3) : (tpZ M tp Z).1 (tp + 2) = va_up (M.1 (tp + 2)) 0 (nI Z.2.1) := by unfold tpZ; rw [zs_off _ (by omega), zs_at, za_off _ (by omega)]
theorem tpZ_th (M : zM) (tp : Nat) (Z : zZ3) : (tpZ M tp Z).1 (tp + 2 + 1) = Z.2.2 := by unfold tpZ; rw [zs_off _ (by omega), zs_off _ (by omega), za_at]
theorem tpZ_off {M : zM} {tp b : Nat} {Z : zZ3} (h1 : b ≠ tp) (h2 : b ≠ tp + 2) (h3 : b ≠ tp + 2 + 1) : (tpZ M tp Z).1 b = M.1 b := by unfold tpZ; rw [zs_off _ h1, zs_off _ h2, za_off _ h3]
theorem tpZ_p (M : zM) (tp p q n : Nat) (th : zF1) : zs (tpZ M tp (p, n, th)) tp 2 (nI q) = tpZ M tp (q, n, th) := by unfold tpZ; rw [zs_zs]
theorem tpZ_add (M : zM) (tp p q n m : Nat) (th h : zF1) : zs (za (zs (tpZ M tp (p, n, th)) tp 2 (nI q)) (tp + 2 + 1) h) (tp + 2) 0 (nI m) = tpZ M tp (q, m, h) := by
  refine zM_ext (fun k => ?_) rfl
  by_cases h1 : k = tp
  · subst h1; rw [zs_off _ (by omega), za_off _ (by omega), zs_at, tpZ_tp, tpZ_tp, bx_uu]
  by_cases h2 : k = tp + 2
  · subst h2; rw [zs_at, za_off _ (by omega), zs_off _ (by omega), tpZ_rb, tpZ_rb, bx_uu]
  by_cases h3 : k = tp + 2 + 1
  · subst h3; rw [zs_off _ (by omega), za_at, tpZ_th]
  rw [zs_off _ h2, za_off _ h3, zs_off _ h1, tpZ_off h1 h2 h3, tpZ_off h1 h2 h3]
theorem tpZ_ok {M : zM} {tp len p : Nat} {Z : zZ3} (h : tpOK M tp len p) (hq : Z.1 ≤ len) : tpOK (tpZ M tp Z) tp len Z.1 := by
  unfold tpOK at *
  rw [tpZ_tp, tpZ_L, va_up_ne _ _ (by decide), va_up_self]
  exact ⟨h.1, h.2.1, rfl, hq, h.2.2.2.2⟩
def thZ (P : Int32 × Nat × zK5) (q : Nat) (Z : zZ3) : zZ3 := (q, Z.2.1 + 1, setF Z.2.2 Z.2.1 P.2.2.1 P.2.2.2.1 P.2.2.2.2.1 P.2.2.2.2.2)
/-- all things of the tape -/
def thiL (L : zF1) (len : Nat) : Nat → zZ3 → Int32 × zZ3
  | 0, Z => (1, Z)
  | j + 1, Z =>
    if (thiF L len Z.1).1 = 0 then (0, ((thiF L len Z.1).2.1, Z.2.1, Z.2.2)) else
    if j = 0 then (1, thZ (thiF L len Z.1) (thiF L len Z.1).2.1 Z) else
    if rdB L len (thiF L len Z.1).2.1 44 then thiL L len j (thZ (thiF L len Z.1) (rdP L len (thiF L len Z.1).2.1 44) Z)
    else (1, thZ (thiF L len Z.1) (rdP L len (thiF L len Z.1).2.1 44) Z)
theorem thiL_le {L : zF1} {len : Nat} : ∀ (j : Nat) (Z : zZ3), Z.1 ≤ len → (thiL L len j Z).2.1 ≤ len ∧ (thiL L len j Z).2.2.1 ≤ Z.2.1 + j
  | 0, Z, h => ⟨h, Nat.le_refl _⟩
  | j + 1, Z, h => by
    have h1 := thiF_le (L := L) h
    have h2 := rdP_le (L := L) (c := 44) h1 (by decide)
    unfold thiL
    split
    · exact ⟨h1, by show Z.2.1 ≤ _; omega⟩
    · split
      · exact ⟨h1, by show Z.2.1 + 1 ≤ _; omega⟩
      · split
        · have := thiL_le (L := L) j (thZ (thiF L len Z.1) (rdP L len (thiF L len Z.1).2.1 44) Z) h2
          refine ⟨this.1, ?_⟩
          have h3 := this.2
          show _ ≤ Z.2.1 + (j + 1)
          have h4 : (thZ (thiF L len Z.1) (rdP L len (thiF L len Z.1).2.1 44) Z).2.1 = Z.2.1 + 1 := rfl
          omega
        · exact ⟨h2, by show Z.2.1 + 1 ≤ _; omega⟩
theorem c_X3_readThings {l : Launch} {w : zE} (J : zJ w) {M : zM} {tp len p : Nat} (hk : zk tp = 3) (ok : tpOK M tp len p) (hnt : M.1 (tp + 2) 0 = nI 0) : zCi l w yX3_readThings cX3_readThings 2 (some .boolean) 5 [.ref (w.2.2 tp)] M (fun v M2 => v = (thiL (M.1 (tp + 1)) len 10 (p, 0, M.1 (tp + 2 + 1))).1 ∧ M2 = tpZ M tp (thiL (M.1 (tp + 1)) len 10 (p, 0, M.1 (tp + 2 + 1))).2) := by
  refine zCi_of J zm_X3_readThings [some (.ref (w.2.2 tp)), none] (Nat.le_of_ble_eq_true rfl) rfl (fun g hg F X => ?_)
  subst hg
  generalize hr : thiL (M.1 (tp + 1)) len 10 (p, 0, M.1 (tp + 2 + 1)) = r at X
  have key : ∀ (j k : Nat) (Z : zZ3), k + j = 11 → Z.2.1 + 1 = k → Z.1 ≤ len → thiL (M.1 (tp + 1)) len j Z = r → ZW w g 2 2 [some (.ref (w.2.2 tp)), some (.int (nI k))] [] (tpZ M tp Z) := by
    intro j
    induction j with
    | zero =>
      intro k Z hkj hZ hle hs
      have hkn : k = 11 := by omega
      subst hkn
      have hs : ((1 : Int32), Z) = r := hs
      subst hs
      refine z_iload_n F dX3_readThings_2 rfl ?_
      refine z_bipush (v := 10) F dX3_readThings_3 (by decide) ?_
      refine z_ic_gt (tgt := 40) F dX3_readThings_5 (by decide) (fun h_5 => ?_) (fun h_5 => absurd h_5 (by decide))
      refine z_iconst (v := 1) F dX3_readThings_40 (by decide) ?_
      refine z_zret F X dX3_readThings_41 (by decide) ?_
      exact ⟨rfl, rfl⟩
    | succ j ih =>
      intro k Z hkj hZ hle hs
      obtain ⟨q, n, th⟩ := Z
      have hZ : n + 1 = k := hZ
      have hle : q ≤ len := hle
      rw [thiL] at hs
      have okZ := tpZ_ok (Z := (q, n, th)) ok hle
      have eL := tpZ_L M tp (q, n, th)
      have eT := tpZ_th M tp (q, n, th)
      have hpl := thiF_le (L := M.1 (tp + 1)) hle
      generalize hpf : thiF (M.1 (tp + 1)) len q = P at hs hpl
      simp only [hpf] at hs
      have okP := tpZ_ok (Z := thZ P P.2.1 (q, n, th)) ok hpl
      refine z_iload_n F dX3_readThings_2 rfl ?_
      refine z_bipush (v := 10) F dX3_readThings_3 (by decide) ?_
      refine z_ic_gt (tgt := 40) F dX3_readThings_5 (by decide) (fun h_5 => absurd h_5 (Int32.not_lt.mpr (nI_le (b := 10) (by omega) (by decide)))) (fun h_5 => ?_)
      refine z_aload_n F dX3_readThings_8 rfl ?_
      refine z_callVi F (c_X3_readThing J hk okZ (n := n) (by rw [tpZ_rb, va_up_self]) (by omega)) zm_X3_readThing zv_X3_readThing ml_X3_74 (by with_reducible assumption) (by decide) rfl rfl rfl (Nat.le_of_ble_eq_true rfl) dX3_readThings_9 (by omega) (fun r_9 M_9 h_9 => ?_)
      obtain ⟨e_9, m_9⟩ := h_9
      rw [eL] at e_9 m_9
      rw [eT] at m_9
      rw [hpf] at e_9 m_9
      subst e_9
      refine z_if_ne (tgt := 17) F dX3_readThings_12 (by decide) (fun h_12 => ?_) (fun h_12 => ?_)
      · rw [if_neg h_12, tpZ_add] at m_9
        replace m_9 : M_9 = tpZ M tp (thZ P P.2.1 (q, n, th)) := m_9
        subst m_9
        refine z_iload_n F dX3_readThings_17 rfl ?_
        refine z_bipush (v := 10) F dX3_readThings_18 (by decide) ?_
        refine z_ic_eq (tgt := 32) F dX3_readThings_20 (by decide) (fun h_20 => ?_) (fun h_20 => ?_)
        · refine z_iconst (v := 1) F dX3_readThings_32 (by decide) ?_
          refine z_zret F X dX3_readThings_33 (by decide) ?_
          have hj : j = 0 := by have := (nI_eq (b := 10) (by omega) (by decide)).mp h_20; omega
          rw [if_neg h_12, if_pos hj] at hs
          rw [← hs]
          exact ⟨rfl, rfl⟩
        · refine z_aload_n F dX3_readThings_23 rfl ?_
          refine z_bipush (v := 44) F dX3_readThings_24 (by decide) ?_
          refine z_callVi F (c_X3_reads J hk okP) zm_X3_reads zv_X3_reads ml_X3_57 (by with_reducible assumption) (by decide) rfl rfl rfl (Nat.le_of_ble_eq_true rfl) dX3_readThings_26 (by omega) (fun r_26 M_26 h_26 => ?_)
          obtain ⟨e_26, rfl⟩ := h_26
          replace e_26 := Eq.symm e_26
          subst e_26
          rw [show zs (tpZ M tp (thZ P P.2.1 (q, n, th))) tp 2 (nI (rdP ((tpZ M tp (thZ P P.2.1 (q, n, th))).1 (tp + 1)) len (thZ P P.2.1 (q, n, th)).1 44)) = tpZ M tp (thZ P (rdP (M.1 (tp + 1)) len P.2.1 44) (q, n, th)) from by rw [tpZ_L]; exact tpZ_p _ _ _ _ _ _, tpZ_L]
          refine z_if_ne (tgt := 34) F dX3_readThings_29 (by decide) (fun h_29 => ?_) (fun h_29 => ?_)
          · replace h_29 := bI_1.mp h_29
            refine z_iincc (c := 1) (lv' := [_, _]) F dX3_readThings_34 rfl (by decide) (by decide) rfl rfl ?_
            refine z_goto (tgt := 2) F dX3_readThings_37 (by decide) ?_
            have hj : ¬ j = 0 := fun z => h_20 (by rw [show k = 10 by omega]; rfl)
            replace h_29 : rdB (M.1 (tp + 1)) len P.2.1 44 := h_29
            rw [if_neg h_12, if_neg hj, if_pos h_29] at hs
            rw [nI_1]
            exact ih (k + 1) _ (by omega) (by show n + 1 + 1 = k + 1; omega) (rdP_le hpl (by decide)) hs
          · replace h_29 := bI_0.mp h_29
            refine z_iconst (v := 1) F dX3_readThings_32 (by decide) ?_
            refine z_zret F X dX3_readThings_33 (by decide) ?_
            have hj : ¬ j = 0 := fun z => h_20 (by rw [show k = 10 by omega]; rfl)
            replace h_29 : ¬ rdB (M.1 (tp + 1)) len P.2.1 44 := h_29
            rw [if_neg h_12, if_neg hj, if_neg h_29] at hs
            rw [← hs]
            exact ⟨rfl, rfl⟩
      · rw [if_pos h_12, tpZ_p] at m_9
        subst m_9
        refine z_iconst (v := 0) F dX3_readThings_15 (by decide) ?_
        refine z_zret F X dX3_readThings_16 (by decide) ?_
        rw [if_pos h_12] at hs
        rw [← hs]
        exact ⟨rfl, rfl⟩
  have k0 := key 10 1 (p, 0, M.1 (tp + 2 + 1)) (by omega) rfl ok.2.2.2.1 hr
  have e0 : tpZ M tp (p, 0, M.1 (tp + 2 + 1)) = M := by
    unfold tpZ
    show zs (zs (za M (tp + 2 + 1) (M.1 (tp + 2 + 1))) (tp + 2) 0 (nI 0)) tp 2 (nI p) = M
    rw [za_self, zs_id hnt, zs_id ok.2.2.1]
  rw [e0] at k0
  refine z_iconst (v := 1) F dX3_readThings_0 (by decide) ?_
  refine z_istore_n (lv' := [_, _]) F dX3_readThings_1 (by decide) rfl rfl ?_
  exact k0
