theorem zM_ext {M M' : zM} (h1 : ∀ b, M.1 b = M'.1 b) (h2 : M.2 = M'.2) : M = M' := Prod.ext (funext h1) h2
abbrev zY : Type := Nat × Nat × zF1 × zF1
/-- the tape's place, its people -/
def tpY (M : zM) (tp : Nat) (Y : zY) : zM := zs (zs (za (za M (tp + 2 + 12) Y.2.2.1) (tp + 16) Y.2.2.2) (tp + 2) 1 (nI Y.2.1)) tp 2 (nI Y.1)
theorem tpY_p (M : zM) (tp p q np : Nat) (pe T : zF1) : zs (tpY M tp (p, np, pe, T)) tp 2 (nI q) = tpY M tp (q, np, pe, T) := by unfold tpY; rw [zs_zs]
theorem tpY_tp (M : zM) (tp : Nat) (Y : zY) : (tpY M tp Y).1 tp = va_up (M.1 tp) 2 (nI Y.1) := by unfold tpY; rw [zs_at, zs_off _ (by omega), za_off _ (by omega), za_off _ (by omega)]
theorem tpY_L (M : zM) (tp : Nat) (Y : zY) : (tpY M tp Y).1 (tp + 1) = M.1 (tp + 1) := by unfold tpY; rw [zs_off _ (by omega), zs_off _ (by omega), za_off _ (by omega), za_off _ (by omega)]
theorem tpY_rb (M : zM) (tp : Nat) (Y : zY) : (tpY M tp Y).1 (tp + 2) = va_up (M.1 (tp + 2)) 1 (nI Y.2.1) := by unfold tpY; rw [zs_off _ (by omega), zs_at, za_off _ (by omega), za_off _ (by omega)]
theorem tpY_T (M : zM) (tp : Nat) (Y : zY) : (tpY M tp Y).1 (tp + 16) = Y.2.2.2 := by unfold tpY; rw [zs_off _ (by omega), zs_off _ (by omega), za_at]
theorem tpY_pe (M : zM) (tp : Nat) (Y : zY) : (tpY M tp Y).1 (tp + 2 + 12) = Y.2.2.1 := by unfold tpY; rw [zs_off _ (by omega), zs_off _ (by omega), za_off _ (by omega), za_at]
theorem tpY_off {M : zM} {tp b : Nat} {Y : zY} (h1 : b ≠ tp) (h2 : b ≠ tp + 2) (h3 : b ≠ tp + 2 + 12) (h4 : b ≠ tp + 16) : (tpY M tp Y).1 b = M.1 b := by unfold tpY; rw [zs_off _ h1, zs_off _ h2, za_off _ h4, za_off _ h3]
theorem tpY_add (M : zM) (tp p q np m : Nat) (pe T : zF1) (a b c : Nat) (x y z : Int32) : zs (zs (zs (zs (zs (tpY M tp (p, np, pe, T)) tp 2 (nI q)) (tp + 2 + 12) a x) (tp + 2 + 12) b y) (tp + 16) c z) (tp + 2) 1 (nI m) = tpY M tp (q, m, va_up (va_up pe a x) b y, va_up T c z) := by
  refine zM_ext (fun k => ?_) rfl
  by_cases h1 : k = tp
  · subst h1; rw [zs_off _ (by omega), zs_off _ (by omega), zs_off _ (by omega), zs_off _ (by omega), zs_at, tpY_tp, tpY_tp, bx_uu]
  by_cases h2 : k = tp + 2
  · subst h2; rw [zs_at, zs_off _ (by omega), zs_off _ (by omega), zs_off _ (by omega), zs_off _ (by omega), tpY_rb, tpY_rb, bx_uu]
  by_cases h3 : k = tp + 2 + 12
  · subst h3; rw [zs_off _ (by omega), zs_off _ (by omega), zs_at, zs_at, zs_off _ (by omega), tpY_pe, tpY_pe]
  by_cases h4 : k = tp + 16
  · subst h4; rw [zs_off _ (by omega), zs_at, zs_off _ (by omega), zs_off _ (by omega), zs_off _ (by omega), tpY_T, tpY_T]
  rw [zs_off _ h2, zs_off _ h4, zs_off _ h3, zs_off _ h3, zs_off _ h1, tpY_off h1 h2 h3 h4, tpY_off h1 h2 h3 h4]
theorem tpY_ok {M : zM} {tp len p : Nat} {Y : zY} (h : tpOK M tp len p) (hq : Y.1 ≤ len) : tpOK (tpY M tp Y) tp len Y.1 := by
  unfold tpOK at *
  rw [tpY_tp, tpY_L, va_up_ne _ _ (by decide), va_up_self]
  exact ⟨h.1, h.2.1, rfl, hq, h.2.2.2.2⟩
theorem perG_le {L : zF1} {len : Nat} {t : Int32 × Nat} {m : Int32} (h : t.2 ≤ len) : (perG L len t m).2.1 ≤ len := by
  have h1 := rdP_le (L := L) (c := 43) h (by decide)
  have h2 := numF_le (L := L) (most := 20) h1
  unfold perG
  split
  · split
    · exact h2
    · exact h2
  · exact h1
theorem perF_le {L : zF1} {len p np : Nat} {nt : Int32} {T : zF1} (hp : p ≤ len) : (perF L len p nt T np).2.1 ≤ len := by
  have h1 := numF_le (L := L) (most := 11) hp
  have h2 := rdP_le (L := L) (c := 61) h1 (by decide)
  have h3 := freeF_le (L := L) (nt := nt) (T := T) (np := np) h2
  unfold perF
  split
  · exact h1
  · split
    · exact h3
    · refine perG_le ?_
      split
      · exact h3
      · exact h2
/-- all people of the tape -/
def peoL (L : zF1) (len : Nat) (nt : Int32) : Nat → zY → Int32 × zY
  | 0, Y => (1, Y)
  | j + 1, Y =>
    if (perF L len Y.1 nt Y.2.2.2 Y.2.1).1 = 0 then (0, ((perF L len Y.1 nt Y.2.2.2 Y.2.1).2.1, Y.2.1, Y.2.2.1, Y.2.2.2)) else
    if j = 0 then (1, ((perF L len Y.1 nt Y.2.2.2 Y.2.1).2.1, Y.2.1 + 1, va_up (va_up Y.2.2.1 (2 * Y.2.1) (perF L len Y.1 nt Y.2.2.2 Y.2.1).2.2.1) (2 * Y.2.1 + 1) (perF L len Y.1 nt Y.2.2.2 Y.2.1).2.2.2.1, va_up Y.2.2.2 (5 + Y.2.1) (perF L len Y.1 nt Y.2.2.2 Y.2.1).2.2.2.2)) else
    if rdB L len (perF L len Y.1 nt Y.2.2.2 Y.2.1).2.1 44 then peoL L len nt j (rdP L len (perF L len Y.1 nt Y.2.2.2 Y.2.1).2.1 44, Y.2.1 + 1, va_up (va_up Y.2.2.1 (2 * Y.2.1) (perF L len Y.1 nt Y.2.2.2 Y.2.1).2.2.1) (2 * Y.2.1 + 1) (perF L len Y.1 nt Y.2.2.2 Y.2.1).2.2.2.1, va_up Y.2.2.2 (5 + Y.2.1) (perF L len Y.1 nt Y.2.2.2 Y.2.1).2.2.2.2)
    else (1, (rdP L len (perF L len Y.1 nt Y.2.2.2 Y.2.1).2.1 44, Y.2.1 + 1, va_up (va_up Y.2.2.1 (2 * Y.2.1) (perF L len Y.1 nt Y.2.2.2 Y.2.1).2.2.1) (2 * Y.2.1 + 1) (perF L len Y.1 nt Y.2.2.2 Y.2.1).2.2.2.1, va_up Y.2.2.2 (5 + Y.2.1) (perF L len Y.1 nt Y.2.2.2 Y.2.1).2.2.2.2))
theorem c_X3_readPeople {l : Launch} {w : zE} (J : zJ w) {M : zM} {tp len p : Nat} (hk : zk tp = 3) (ok : tpOK M tp len p) (hnp : M.1 (tp + 2) 1 = nI 0) : zCi l w yX3_readPeople cX3_readPeople 2 (some .boolean) 3 [.ref (w.2.2 tp)] M (fun v M2 => v = (peoL (M.1 (tp + 1)) len (M.1 (tp + 2) 0) 8 (p, 0, M.1 (tp + 2 + 12), M.1 (tp + 16))).1 ∧ M2 = tpY M tp (peoL (M.1 (tp + 1)) len (M.1 (tp + 2) 0) 8 (p, 0, M.1 (tp + 2 + 12), M.1 (tp + 16))).2) := by
  obtain ⟨k1, k2, k16⟩ := zkf3 tp (zk_i hk (by decide)) hk
  refine zCi_of J zm_X3_readPeople [some (.ref (w.2.2 tp)), none] (Nat.le_of_ble_eq_true rfl) rfl (fun g hg F X => ?_)
  subst hg
  generalize hr : peoL (M.1 (tp + 1)) len (M.1 (tp + 2) 0) 8 (p, 0, M.1 (tp + 2 + 12), M.1 (tp + 16)) = r at X
  have key : ∀ (j k : Nat) (Y : zY), k + j = 9 → Y.2.1 + 1 = k → Y.1 ≤ len → peoL (M.1 (tp + 1)) len (M.1 (tp + 2) 0) j Y = r → ZW w g 2 2 [some (.ref (w.2.2 tp)), some (.int (nI k))] [] (tpY M tp Y) := by
    intro j
    induction j with
    | zero =>
      intro k Y hkj hY hle hs
      have hkn : k = 9 := by omega
      subst hkn
      have hs : ((1 : Int32), Y) = r := hs
      subst hs
      refine z_iload_n F dX3_readPeople_2 rfl ?_
      refine z_bipush (v := 8) F dX3_readPeople_3 (by decide) ?_
      refine z_ic_gt (tgt := 40) F dX3_readPeople_5 (by decide) (fun h_5 => ?_) (fun h_5 => absurd h_5 (by decide))
      refine z_iconst (v := 1) F dX3_readPeople_40 (by decide) ?_
      refine z_zret F X dX3_readPeople_41 (by decide) ?_
      exact ⟨rfl, rfl⟩
    | succ j ih =>
      intro k Y hkj hY hle hs
      obtain ⟨q, np, pe, T⟩ := Y
      have hY : np + 1 = k := hY
      have hle : q ≤ len := hle
      rw [peoL] at hs
      have okY := tpY_ok (Y := (q, np, pe, T)) ok hle
      have eL := tpY_L M tp (q, np, pe, T)
      have eT := tpY_T M tp (q, np, pe, T)
      have eR : (tpY M tp (q, np, pe, T)).1 (tp + 2) 0 = M.1 (tp + 2) 0 := by rw [tpY_rb, va_up_ne _ _ (by decide)]
      have hpl := perF_le (L := M.1 (tp + 1)) (nt := M.1 (tp + 2) 0) (T := T) (np := np) hle
      generalize hpf : perF (M.1 (tp + 1)) len q (M.1 (tp + 2) 0) T np = P at hs hpl
      simp only [hpf] at hs
      have okP := tpY_ok (Y := (P.2.1, np + 1, va_up (va_up pe (2 * np) P.2.2.1) (2 * np + 1) P.2.2.2.1, va_up T (5 + np) P.2.2.2.2)) ok hpl
      refine z_iload_n F dX3_readPeople_2 rfl ?_
      refine z_bipush (v := 8) F dX3_readPeople_3 (by decide) ?_
      refine z_ic_gt (tgt := 40) F dX3_readPeople_5 (by decide) (fun h_5 => absurd h_5 (Int32.not_lt.mpr (nI_le (b := 8) (by omega) (by decide)))) (fun h_5 => ?_)
      refine z_aload_n F dX3_readPeople_8 rfl ?_
      refine z_callVi F (c_X3_readPerson J hk okY (np := np) (by rw [tpY_rb, va_up_self]) (by omega)) zm_X3_readPerson zv_X3_readPerson ml_X3_92 (by with_reducible assumption) (by decide) rfl rfl rfl (Nat.le_of_ble_eq_true rfl) dX3_readPeople_9 (by omega) (fun r_9 M_9 h_9 => ?_)
      obtain ⟨e_9, m_9⟩ := h_9
      rw [eL, eR, eT, hpf] at e_9 m_9
      subst e_9
      refine z_if_ne (tgt := 17) F dX3_readPeople_12 (by decide) (fun h_12 => ?_) (fun h_12 => ?_)
      · rw [if_neg h_12, tpY_add] at m_9
        subst m_9
        refine z_iload_n F dX3_readPeople_17 rfl ?_
        refine z_bipush (v := 8) F dX3_readPeople_18 (by decide) ?_
        refine z_ic_eq (tgt := 32) F dX3_readPeople_20 (by decide) (fun h_20 => ?_) (fun h_20 => ?_)
        · refine z_iconst (v := 1) F dX3_readPeople_32 (by decide) ?_
          refine z_zret F X dX3_readPeople_33 (by decide) ?_
          have hj : j = 0 := by have := (nI_eq (b := 8) (by omega) (by decide)).mp h_20; omega
          rw [if_neg h_12, if_pos hj] at hs
          rw [← hs]
          exact ⟨rfl, rfl⟩
        · refine z_aload_n F dX3_readPeople_23 rfl ?_
          refine z_bipush (v := 44) F dX3_readPeople_24 (by decide) ?_
          refine z_callVi F (c_X3_reads J hk okP) zm_X3_reads zv_X3_reads ml_X3_57 (by with_reducible assumption) (by decide) rfl rfl rfl (Nat.le_of_ble_eq_true rfl) dX3_readPeople_26 (by omega) (fun r_26 M_26 h_26 => ?_)
          obtain ⟨e_26, rfl⟩ := h_26
          replace e_26 := Eq.symm e_26
          subst e_26
          rw [tpY_p, tpY_L]
          refine z_if_ne (tgt := 34) F dX3_readPeople_29 (by decide) (fun h_29 => ?_) (fun h_29 => ?_)
          · replace h_29 := bI_1.mp h_29
            refine z_iincc (c := 1) (lv' := [_, _]) F dX3_readPeople_34 rfl (by decide) (by decide) rfl rfl ?_
            refine z_goto (tgt := 2) F dX3_readPeople_37 (by decide) ?_
            have hj : ¬ j = 0 := fun z => h_20 (by rw [show k = 8 by omega]; rfl)
            dsimp only at h_29
            rw [if_neg h_12, if_neg hj, if_pos h_29] at hs
            rw [nI_1]
            exact ih (k + 1) _ (by omega) (by show np + 1 + 1 = k + 1; omega) (rdP_le hpl (by decide)) hs
          · replace h_29 := bI_0.mp h_29
            refine z_iconst (v := 1) F dX3_readPeople_32 (by decide) ?_
            refine z_zret F X dX3_readPeople_33 (by decide) ?_
            have hj : ¬ j = 0 := fun z => h_20 (by rw [show k = 8 by omega]; rfl)
            dsimp only at h_29
            rw [if_neg h_12, if_neg hj, if_neg h_29] at hs
            rw [← hs]
            exact ⟨rfl, rfl⟩
      · rw [if_pos h_12, tpY_p] at m_9
        subst m_9
        refine z_iconst (v := 0) F dX3_readPeople_15 (by decide) ?_
        refine z_zret F X dX3_readPeople_16 (by decide) ?_
        rw [if_pos h_12] at hs
        rw [← hs]
        exact ⟨rfl, rfl⟩
  have k0 := key 8 1 (p, 0, M.1 (tp + 2 + 12), M.1 (tp + 16)) (by omega) rfl ok.2.2.2.1 hr
  have e0 : tpY M tp (p, 0, M.1 (tp + 2 + 12), M.1 (tp + 16)) = M := by
    unfold tpY
    show zs (zs (za (za M (tp + 2 + 12) (M.1 (tp + 2 + 12))) (tp + 16) (M.1 (tp + 16))) (tp + 2) 1 (nI 0)) tp 2 (nI p) = M
    rw [za_self, za_self, zs_id hnp, zs_id ok.2.2.1]
  rw [e0] at k0
  refine z_iconst (v := 1) F dX3_readPeople_0 (by decide) ?_
  refine z_istore_n (lv' := [_, _]) F dX3_readPeople_1 (by decide) rfl rfl ?_
  exact k0
