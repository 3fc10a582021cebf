abbrev zRd : Type := Nat × zF1 × Nat × zF1 × zF1
def endF (L : zF1) (len p : Nat) (S : zRd) : Int32 × Nat × zRd := (bI (chF L len (nxP L (len - p) p) = 0), nxP L (len - p) p, S)
def hisE (L : zF1) (len p : Nat) (S : zRd) : Int32 × Nat × zRd :=
  if (hisF L len p (nI S.1) S.2.2.2.2 S.2.2.1).1 = 0 then (0, (hisF L len p (nI S.1) S.2.2.2.2 S.2.2.1).2.1, S)
  else endF L len (hisF L len p (nI S.1) S.2.2.2.2 S.2.2.1).2.1 (S.1, S.2.1, S.2.2.1, S.2.2.2.1, va_up S.2.2.2.2 0 (hisF L len p (nI S.1) S.2.2.2.2 S.2.2.1).2.2)
def roadH (L : zF1) (len : Nat) (Y : zY) (nt : Nat) (th : zF1) : Int32 × Nat × zRd := if rdB L len Y.1 59 then hisE L len (rdP L len Y.1 59) (nt, th, Y.2.1, Y.2.2.1, Y.2.2.2) else endF L len (rdP L len Y.1 59) (nt, th, Y.2.1, Y.2.2.1, Y.2.2.2)
/-- behind the things: people, and what he has -/
def roadG (L : zF1) (len p nt : Nat) (th pe T : zF1) : Int32 × Nat × zRd :=
  if rdB L len p 59 then
    (if dgF (chF L len (nxP L (len - rdP L len p 59) (rdP L len p 59))) then
      (if (peoL L len (nI nt) 8 (nxP L (len - rdP L len p 59) (rdP L len p 59), 0, pe, T)).1 = 0 then (0, (peoL L len (nI nt) 8 (nxP L (len - rdP L len p 59) (rdP L len p 59), 0, pe, T)).2.1, (nt, th, 0, pe, T)) else
       roadH L len (peoL L len (nI nt) 8 (nxP L (len - rdP L len p 59) (rdP L len p 59), 0, pe, T)).2 nt th)
    else hisE L len (nxP L (len - rdP L len p 59) (rdP L len p 59)) (nt, th, 0, pe, T))
  else endF L len (rdP L len p 59) (nt, th, 0, pe, T)
def roadF (L : zF1) (len : Nat) (th pe T : zF1) : Int32 × Nat × zRd :=
  if (thiL L len 10 (0, 0, th)).1 = 0 then (0, (thiL L len 10 (0, 0, th)).2.1, (0, th, 0, pe, T))
  else roadG L len (thiL L len 10 (0, 0, th)).2.1 (thiL L len 10 (0, 0, th)).2.2.1 (thiL L len 10 (0, 0, th)).2.2.2 pe T
/-- how the tape stands while a road is read -/
def tpR (M : zM) (tp n : Nat) (M' : zM) (p : Nat) (S : zRd) : Prop := M'.1 tp = va_up (M.1 tp) 2 (nI p) ∧ M'.1 (tp + 2) = va_up (va_up (M.1 (n + 1)) 0 (nI S.1)) 1 (nI S.2.2.1) ∧ M'.1 (tp + 2 + 1) = S.2.1 ∧ M'.1 (tp + 2 + 12) = S.2.2.2.1 ∧ M'.1 (tp + 16) = S.2.2.2.2 ∧ M'.2 = M.2 ∧ ∀ b, b ≠ tp → b ≠ tp + 2 → b ≠ tp + 2 + 1 → b ≠ tp + 2 + 12 → b ≠ tp + 16 → b ≠ tp + 17 → M'.1 b = M.1 b
theorem tpR.p {M M' : zM} {tp n p : Nat} {S : zRd} (h : tpR M tp n M' p S) (q : Nat) : tpR M tp n (zs M' tp 2 (nI q)) q S := by
  obtain ⟨h1, h2, h3, h4, h5, h6, h7⟩ := h
  refine ⟨by rw [zs_at, h1, bx_uu], by rw [zs_off _ (by omega), h2], by rw [zs_off _ (by omega), h3], by rw [zs_off _ (by omega), h4], by rw [zs_off _ (by omega), h5], h6, fun b a1 a2 a3 a4 a5 a6 => by rw [zs_off _ a1]; exact h7 b a1 a2 a3 a4 a5 a6⟩
theorem tpR.his {M M' : zM} {tp n p : Nat} {S : zRd} (h : tpR M tp n M' p S) (t : Int32) : tpR M tp n (zs M' (tp + 16) 0 t) p (S.1, S.2.1, S.2.2.1, S.2.2.2.1, va_up S.2.2.2.2 0 t) := by
  obtain ⟨h1, h2, h3, h4, h5, h6, h7⟩ := h
  refine ⟨by rw [zs_off _ (by omega), h1], by rw [zs_off _ (by omega), h2], by rw [zs_off _ (by omega), h3], by rw [zs_off _ (by omega), h4], by rw [zs_at, h5], h6, fun b a1 a2 a3 a4 a5 a6 => by rw [zs_off _ a5]; exact h7 b a1 a2 a3 a4 a5 a6⟩
theorem tpR.Z {M M' : zM} {tp n p n0 np : Nat} {th pe T : zF1} (h : tpR M tp n M' p (n0, th, np, pe, T)) (Z : zZ3) : tpR M tp n (tpZ M' tp Z) Z.1 (Z.2.1, Z.2.2, np, pe, T) := by
  obtain ⟨h1, h2, h3, h4, h5, h6, h7⟩ := h
  refine ⟨by rw [tpZ_tp, h1, bx_uu], ?_, by rw [tpZ_th], by rw [tpZ_off (by omega) (by omega) (by omega), h4], by rw [tpZ_off (by omega) (by omega) (by omega), h5], h6, fun b a1 a2 a3 a4 a5 a6 => by rw [tpZ_off a1 a2 a3]; exact h7 b a1 a2 a3 a4 a5 a6⟩
  rw [tpZ_rb, h2]
  funext o
  unfold va_up
  by_cases e0 : o = 0
  · subst e0; rfl
  · simp [e0]
theorem tpR.Y {M M' : zM} {tp n p n0 np : Nat} {th pe T : zF1} (h : tpR M tp n M' p (n0, th, np, pe, T)) (Y : zY) : tpR M tp n (tpY M' tp Y) Y.1 (n0, th, Y.2.1, Y.2.2.1, Y.2.2.2) := by
  obtain ⟨h1, h2, h3, h4, h5, h6, h7⟩ := h
  refine ⟨by rw [tpY_tp, h1, bx_uu], by rw [tpY_rb, h2, bx_uu], by rw [tpY_off (by omega) (by omega) (by omega) (by omega), h3], by rw [tpY_pe], by rw [tpY_T], h6, fun b a1 a2 a3 a4 a5 a6 => by rw [tpY_off a1 a2 a4 a5]; exact h7 b a1 a2 a3 a4 a5 a6⟩
theorem tpR.ok {M M' : zM} {tp n p len : Nat} {S : zRd} (h : tpR M tp n M' p S) (hl : M.1 tp 1 = nI len) (h120 : len ≤ 120) (hL : ltOK (M.1 (tp + 1)) len) (hp : p ≤ len) : tpOK M' tp len p := by
  obtain ⟨h1, h2, h3, h4, h5, h6, h7⟩ := h
  unfold tpOK
  rw [h1, h7 (tp + 1) (by omega) (by omega) (by omega) (by omega) (by omega) (by omega), va_up_ne _ _ (by decide), va_up_self]
  exact ⟨hl, h120, rfl, hp, hL⟩
theorem peoL_le {L : zF1} {len : Nat} {nt : Int32} : ∀ (j : Nat) (Y : zY), Y.1 ≤ len → (peoL L len nt j Y).2.1 ≤ len ∧ (peoL L len nt j Y).2.2.1 ≤ Y.2.1 + j
  | 0, Y, h => ⟨h, Nat.le_refl _⟩
  | j + 1, Y, h => by
    have h1 := perF_le (L := L) (nt := nt) (T := Y.2.2.2) (np := Y.2.1) h
    have h2 := rdP_le (L := L) (c := 44) h1 (by decide)
    unfold peoL
    split
    · exact ⟨h1, by show Y.2.1 ≤ _; omega⟩
    · split
      · exact ⟨h1, by show Y.2.1 + 1 ≤ _; omega⟩
      · split
        · have := peoL_le (L := L) (nt := nt) j (rdP L len (perF L len Y.1 nt Y.2.2.2 Y.2.1).2.1 44, Y.2.1 + 1, va_up (va_up Y.2.2.1 (2 * Y.2.1) (perF L len Y.1 nt Y.2.2.2 Y.2.1).2.2.1) (2 * Y.2.1 + 1) (perF L len Y.1 nt Y.2.2.2 Y.2.1).2.2.2.1, va_up Y.2.2.2 (5 + Y.2.1) (perF L len Y.1 nt Y.2.2.2 Y.2.1).2.2.2.2) h2
          refine ⟨this.1, ?_⟩
          have h3 := this.2
          simp only at h3
          omega
        · exact ⟨h2, by show Y.2.1 + 1 ≤ _; omega⟩
theorem hisF_le {L : zF1} {len p np : Nat} {nt : Int32} {T : zF1} (hp : p ≤ len) : (hisF L len p nt T np).2.1 ≤ len := by
  have h1 := rdP_le (L := L) (c := 61) hp (by decide)
  have h2 := freeF_le (L := L) (nt := nt) (T := T) (np := np) h1
  unfold hisF
  split
  · split
    · exact h2
    · exact h2
  · exact h1
def tT0 (T : zF1) : zF1 := va_up (va_up (va_up (va_up T 0 (-4)) 1 0) 2 0) 3 0
theorem tpR_start {M : zM} {tp n : Nat} (htp : tp = 69) (hn1 : n = 1) : tpR M tp n (zs (zs (zs (zs (zs (zs (za (zrd (zs M tp 2 0) (tp + 2) (M.1 (n + 1)) (M.1 (n + 1 + 1)) (M.1 (n + 1 + 12))) (tp + 16) (M.1 (n + 15))) (tp + 2) 0 0) (tp + 2) 1 0) (tp + 16) 0 (-4)) (tp + 16) 1 0) (tp + 16) 2 0) (tp + 16) 3 0) 0 (0, M.1 (n + 1 + 1), 0, M.1 (n + 1 + 12), tT0 (M.1 (n + 15))) := by
  unfold zrd
  refine ⟨?_, ?_, ?_, ?_, ?_, rfl, fun b a1 a2 a3 a4 a5 a6 => ?_⟩
  · rw [zs_off _ (by omega), zs_off _ (by omega), zs_off _ (by omega), zs_off _ (by omega), zs_off _ (by omega), zs_off _ (by omega), za_off _ (by omega), za_off _ (by omega), za_off _ (by omega), za_off _ (by omega), zs_at]; rfl
  · rw [zs_off _ (by omega), zs_off _ (by omega), zs_off _ (by omega), zs_off _ (by omega), zs_at, zs_at, za_off _ (by omega), za_at]; rfl
  · rw [zs_off _ (by omega), zs_off _ (by omega), zs_off _ (by omega), zs_off _ (by omega), zs_off _ (by omega), zs_off _ (by omega), za_off _ (by omega), za_off _ (by omega), za_off _ (by omega), za_at]
  · rw [zs_off _ (by omega), zs_off _ (by omega), zs_off _ (by omega), zs_off _ (by omega), zs_off _ (by omega), zs_off _ (by omega), za_off _ (by omega), za_off _ (by omega), za_at]
  · rw [zs_at, zs_at, zs_at, zs_at, zs_off _ (by omega), zs_off _ (by omega), za_at]; rfl
  · rw [zs_off _ a5, zs_off _ a5, zs_off _ a5, zs_off _ a5, zs_off _ a2, zs_off _ a2, za_off _ a5, za_off _ a2, za_off _ a4, za_off _ a3, zs_off _ a1]
theorem c_X3_readRoad {l : Launch} {w : zE} (J : zJ w) {M : zM} {tp n len : Nat} (hk : zk tp = 3) (hn : zk n = 6) (htp : tp = 69) (hn1 : n = 1) (hl : M.1 tp 1 = nI len) (h120 : len ≤ 120) (hL : ltOK (M.1 (tp + 1)) len) : zCi l w yX3_readRoad cX3_readRoad 3 (some .boolean) 6 [.ref (w.2.2 tp), .ref (w.2.2 n)] M (fun v M2 => v = (roadF (M.1 (tp + 1)) len (M.1 (n + 1 + 1)) (M.1 (n + 1 + 12)) (tT0 (M.1 (n + 15)))).1 ∧ ∃ S, tpR M tp n M2 (roadF (M.1 (tp + 1)) len (M.1 (n + 1 + 1)) (M.1 (n + 1 + 12)) (tT0 (M.1 (n + 15)))).2.1 S ∧ (¬ v = 0 → S = (roadF (M.1 (tp + 1)) len (M.1 (n + 1 + 1)) (M.1 (n + 1 + 12)) (tT0 (M.1 (n + 15)))).2.2)) := by
  obtain ⟨k1, k2, k16⟩ := zkf3 tp (zk_i hk (by decide)) hk
  refine zCi_of J zm_X3_readRoad [some (.ref (w.2.2 tp)), some (.ref (w.2.2 n)), none] (Nat.le_of_ble_eq_true rfl) rfl (fun g hg F X => ?_)
  subst hg
  generalize hR : roadF (M.1 (tp + 1)) len (M.1 (n + 1 + 1)) (M.1 (n + 1 + 12)) (tT0 (M.1 (n + 15))) = R at X
  have hLM : ∀ {M' : zM} {p : Nat} {S : zRd}, tpR M tp n M' p S → M'.1 (tp + 1) = M.1 (tp + 1) := fun h => h.2.2.2.2.2.2 _ (by omega) (by omega) (by omega) (by omega) (by omega) (by omega)
  have jE : ∀ (M' : zM) (p : Nat) (S : zRd) (x2 : Option Value), p ≤ len → tpR M tp n M' p S → endF (M.1 (tp + 1)) len p S = R → ZW w g 3 109 [some (.ref (w.2.2 tp)), some (.ref (w.2.2 n)), x2] [] M' := by
    intro M' p S x2 hp hM hr
    subst hr
    refine z_aload_n F dX3_readRoad_109 rfl ?_
    refine z_callVi F (c_X3_next J hk (hM.ok hl h120 hL hp)) zm_X3_next zv_X3_next ml_X3_61 (by with_reducible assumption) (by decide) rfl rfl rfl (Nat.le_of_ble_eq_true rfl) dX3_readRoad_110 (by omega) (fun r_110 M_110 h_110 => ?_)
    obtain ⟨e_110, rfl⟩ := h_110
    replace e_110 := Eq.symm e_110
    subst e_110
    rw [hLM hM]
    refine z_if_ne (tgt := 120) F dX3_readRoad_113 (by decide) (fun h_113 => ?_) (fun h_113 => ?_)
    · refine z_iconst (v := 0) F dX3_readRoad_120 (by decide) ?_
      refine z_zret F X dX3_readRoad_121 (by decide) ?_
      exact ⟨(bI_f h_113), S, hM.p _, fun z => absurd rfl z⟩
    · refine z_iconst (v := 1) F dX3_readRoad_116 (by decide) ?_
      refine z_goto (tgt := 121) F dX3_readRoad_117 (by decide) ?_
      refine z_zret F X dX3_readRoad_121 (by decide) ?_
      exact ⟨(bI_t h_113), S, hM.p _, fun _ => rfl⟩
  have jH : ∀ (M' : zM) (p : Nat) (S : zRd) (x2 : Option Value), p ≤ len → S.2.2.1 ≤ 8 → tpR M tp n M' p S → hisE (M.1 (tp + 1)) len p S = R → ZW w g 3 100 [some (.ref (w.2.2 tp)), some (.ref (w.2.2 n)), x2] [] M' := by
    intro M' p S x2 hp hnp8 hM hr
    have e1 : M'.1 (tp + 2) 0 = nI S.1 := by rw [hM.2.1]; rfl
    have e2 : M'.1 (tp + 2) 1 = nI S.2.2.1 := by rw [hM.2.1]; rfl
    have e3 := hM.2.2.2.2.1
    have hle := hisF_le (L := M.1 (tp + 1)) (nt := nI S.1) (T := S.2.2.2.2) (np := S.2.2.1) hp
    rw [hisE] at hr
    refine z_aload_n F dX3_readRoad_100 rfl ?_
    refine z_callVi F (c_X3_readHis J hk (hM.ok hl h120 hL hp) e2 hnp8) zm_X3_readHis zv_X3_readHis ml_X3_71 (by with_reducible assumption) (by decide) rfl rfl rfl (Nat.le_of_ble_eq_true rfl) dX3_readRoad_101 (by omega) (fun r_101 M_101 h_101 => ?_)
    obtain ⟨e_101, m_101⟩ := h_101
    rw [hLM hM, e1, e3] at e_101 m_101
    subst e_101
    refine z_if_ne (tgt := 109) F dX3_readRoad_104 (by decide) (fun h_104 => ?_) (fun h_104 => ?_)
    · rw [if_neg h_104] at m_101 hr
      subst m_101
      exact jE _ _ _ _ hle ((hM.p _).his _) hr
    · rw [if_pos h_104] at m_101 hr
      subst m_101
      refine z_iconst (v := 0) F dX3_readRoad_107 (by decide) ?_
      refine z_zret F X dX3_readRoad_108 (by decide) ?_
      subst hr
      exact ⟨rfl, S, hM.p _, fun z => absurd rfl z⟩
  have jP : ∀ (M' : zM) (p : Nat) (nt : Nat) (th pe T : zF1), p ≤ len → tpR M tp n M' p (nt, th, 0, pe, T) → roadG (M.1 (tp + 1)) len p nt th pe T = R → ZW w g 3 59 [some (.ref (w.2.2 tp)), some (.ref (w.2.2 n)), none] [] M' := by
    intro M' p nt th pe T hp hM hr
    have okM := hM.ok hl h120 hL hp
    have hp2 := rdP_le (L := M.1 (tp + 1)) (c := 59) hp (by decide)
    have ok2 := (hM.p (rdP (M.1 (tp + 1)) len p 59)).ok hl h120 hL hp2
    have hp3 := nxP_le (M.1 (tp + 1)) (len - rdP (M.1 (tp + 1)) len p 59) (rdP (M.1 (tp + 1)) len p 59)
    have hM3 := hM.p (nxP (M.1 (tp + 1)) (len - rdP (M.1 (tp + 1)) len p 59) (rdP (M.1 (tp + 1)) len p 59))
    have ok3 := hM3.ok hl h120 hL (by omega)
    have hL1 := hLM hM
    have hL3 := hLM hM3
    have hY := peoL_le (L := M.1 (tp + 1)) (nt := nI nt) 8 (nxP (M.1 (tp + 1)) (len - rdP (M.1 (tp + 1)) len p 59) (rdP (M.1 (tp + 1)) len p 59), 0, pe, T) (by show _ ≤ len; omega)
    rw [roadG] at hr
    refine z_aload_n F dX3_readRoad_59 rfl ?_
    refine z_bipush (v := 59) F dX3_readRoad_60 (by decide) ?_
    refine z_callVi F (c_X3_reads J hk okM) zm_X3_reads zv_X3_reads ml_X3_57 (by with_reducible assumption) (by decide) rfl rfl rfl (Nat.le_of_ble_eq_true rfl) dX3_readRoad_62 (by omega) (fun r_62 M_62 h_62 => ?_)
    obtain ⟨e_62, rfl⟩ := h_62
    replace e_62 := Eq.symm e_62
    subst e_62
    rw [hL1]
    refine z_istore_n (lv' := [_, _, _]) F dX3_readRoad_65 (by decide) rfl rfl ?_
    refine z_iload_n F dX3_readRoad_66 rfl ?_
    refine z_if_eq (tgt := 96) F dX3_readRoad_67 (by decide) (fun h_67 => ?_) (fun h_67 => ?_)
    · replace h_67 := bI_0.mp h_67
      refine z_iload_n F dX3_readRoad_96 rfl ?_
      refine z_if_eq (tgt := 109) F dX3_readRoad_97 (by decide) (fun h_97 => ?_) (fun h_97 => ?_)
      · replace h_97 := bI_0.mp h_97
        rw [if_neg h_67] at hr
        exact jE _ _ _ _ hp2 (hM.p _) hr
      · replace h_97 := bI_1.mp h_97
        exact absurd h_97 h_67
    · replace h_67 := bI_1.mp h_67
      refine z_aload_n F dX3_readRoad_70 rfl ?_
      refine z_callVi F (c_X3_next J hk ok2) zm_X3_next zv_X3_next ml_X3_61 (by with_reducible assumption) (by decide) rfl rfl rfl (Nat.le_of_ble_eq_true rfl) dX3_readRoad_71 (by omega) (fun r_71 M_71 h_71 => ?_)
      obtain ⟨e_71, rfl⟩ := h_71
      replace e_71 := Eq.symm e_71
      subst e_71
      simp only [zs_off _ (show tp + 1 ≠ tp by omega), hL1, zs_zs]
      refine z_callSi F (c_X3_isDigit J) zm_X3_isDigit zst_X3_isDigit ml_X3_65 rfl rfl (Nat.le_of_ble_eq_true rfl) dX3_readRoad_74 (by omega) (fun r_74 M_74 h_74 => ?_)
      obtain ⟨e_74, rfl⟩ := h_74
      replace e_74 := Eq.symm e_74
      subst e_74
      refine z_if_eq (tgt := 96) F dX3_readRoad_77 (by decide) (fun h_77 => ?_) (fun h_77 => ?_)
      · replace h_77 := bI_0.mp h_77
        refine z_iload_n F dX3_readRoad_96 rfl ?_
        refine z_if_eq (tgt := 109) F dX3_readRoad_97 (by decide) (fun h_97 => ?_) (fun h_97 => ?_)
        · replace h_97 := bI_0.mp h_97
          exact absurd h_67 h_97
        · replace h_97 := bI_1.mp h_97
          rw [if_pos h_67, if_neg h_77] at hr
          exact jH _ _ _ _ (by omega) (Nat.zero_le _) hM3 hr
      · replace h_77 := bI_1.mp h_77
        refine z_aload_n F dX3_readRoad_80 rfl ?_
        refine z_callVi F (c_X3_readPeople J hk ok3 (by rw [hM3.2.1]; rfl)) zm_X3_readPeople zv_X3_readPeople ml_X3_68 (by with_reducible assumption) (by decide) rfl rfl rfl (Nat.le_of_ble_eq_true rfl) dX3_readRoad_81 (by omega) (fun r_81 M_81 h_81 => ?_)
        obtain ⟨e_81, m_81⟩ := h_81
        rw [hL3, hM3.2.1, hM3.2.2.2.1, hM3.2.2.2.2.1] at e_81 m_81
        replace e_81 : r_81 = (peoL (M.1 (tp + 1)) len (nI nt) 8 (nxP (M.1 (tp + 1)) (len - rdP (M.1 (tp + 1)) len p 59) (rdP (M.1 (tp + 1)) len p 59), 0, pe, T)).1 := e_81
        replace m_81 : M_81 = tpY (zs M' tp 2 (nI (nxP (M.1 (tp + 1)) (len - rdP (M.1 (tp + 1)) len p 59) (rdP (M.1 (tp + 1)) len p 59)))) tp (peoL (M.1 (tp + 1)) len (nI nt) 8 (nxP (M.1 (tp + 1)) (len - rdP (M.1 (tp + 1)) len p 59) (rdP (M.1 (tp + 1)) len p 59), 0, pe, T)).2 := m_81
        subst e_81
        subst m_81
        rw [if_pos h_67, if_pos h_77] at hr
        generalize peoL (M.1 (tp + 1)) len (nI nt) 8 (nxP (M.1 (tp + 1)) (len - rdP (M.1 (tp + 1)) len p 59) (rdP (M.1 (tp + 1)) len p 59), 0, pe, T) = Y at hr hY ⊢
        have hMY := hM3.Y Y.2
        have okY := hMY.ok hl h120 hL hY.1
        have hp5 := rdP_le (L := M.1 (tp + 1)) (c := 59) hY.1 (by decide)
        have hLY := hLM hMY
        refine z_if_ne (tgt := 89) F dX3_readRoad_84 (by decide) (fun h_84 => ?_) (fun h_84 => ?_)
        · refine z_aload_n F dX3_readRoad_89 rfl ?_
          refine z_bipush (v := 59) F dX3_readRoad_90 (by decide) ?_
          refine z_callVi F (c_X3_reads J hk okY) zm_X3_reads zv_X3_reads ml_X3_57 (by with_reducible assumption) (by decide) rfl rfl rfl (Nat.le_of_ble_eq_true rfl) dX3_readRoad_92 (by omega) (fun r_92 M_92 h_92 => ?_)
          obtain ⟨e_92, rfl⟩ := h_92
          replace e_92 := Eq.symm e_92
          subst e_92
          rw [hLY]
          refine z_istore_n (lv' := [_, _, _]) F dX3_readRoad_95 (by decide) rfl rfl ?_
          refine z_iload_n F dX3_readRoad_96 rfl ?_
          refine z_if_eq (tgt := 109) F dX3_readRoad_97 (by decide) (fun h_97 => ?_) (fun h_97 => ?_)
          · replace h_97 := bI_0.mp h_97
            rw [if_neg h_84, roadH, if_neg h_97] at hr
            exact jE _ _ _ _ hp5 (hMY.p _) hr
          · replace h_97 := bI_1.mp h_97
            rw [if_neg h_84, roadH, if_pos h_97] at hr
            exact jH _ _ _ _ hp5 (by have := hY.2; simp only at this; show _ ≤ 8; omega) (hMY.p _) hr
        · refine z_iconst (v := 0) F dX3_readRoad_87 (by decide) ?_
          refine z_zret F X dX3_readRoad_88 (by decide) ?_
          rw [if_pos h_84] at hr
          subst hr
          exact ⟨rfl, _, hMY, fun z => absurd rfl z⟩
  have hB := tpR_start (M := M) htp hn1
  have w0 : (zrd (zs M tp 2 0) (tp + 2) (M.1 (n + 1)) (M.1 (n + 1 + 1)) (M.1 (n + 1 + 12))).1 (n + 15) = M.1 (n + 15) := by unfold zrd; rw [za_off _ (by omega), za_off _ (by omega), za_off _ (by omega), zs_off _ (by omega)]
  rw [roadF] at hR
  refine z_aload_n F dX3_readRoad_0 rfl ?_
  refine z_iconst (v := 0) F dX3_readRoad_1 (by decide) ?_
  refine zp_X3_place F (by with_reducible assumption) fl_X3_29 dX3_readRoad_2 ?_
  refine z_aload_n F dX3_readRoad_5 rfl ?_
  refine zg_X3_road F (by with_reducible assumption) fl_X3_18 dX3_readRoad_6 (fun hk_6 => ?_)
  refine z_aload_n F dX3_readRoad_9 rfl ?_
  refine zg_X6_road F (by with_reducible assumption) fl_X3_33 dX3_readRoad_10 (fun hk_10 => ?_)
  refine z_callVv F (d_X1_setFrom J (by with_reducible assumption) (by with_reducible assumption) (by omega)) zm_X1_setFrom zv_X1_setFrom ml_X3_36 (by with_reducible assumption) (by decide) rfl rfl rfl (Nat.le_of_ble_eq_true rfl) dX3_readRoad_13 (by omega) (fun M_13 h_13 => ?_)
  replace h_13 := Eq.symm h_13
  subst h_13
  simp only [zs_off _ (show n + 1 ≠ tp by omega), zs_off _ (show n + 1 + 1 ≠ tp by omega), zs_off _ (show n + 1 + 12 ≠ tp by omega)]
  refine z_aload_n F dX3_readRoad_16 rfl ?_
  refine zg_X3_trip F (by with_reducible assumption) fl_X3_25 dX3_readRoad_17 (fun hk_17 => ?_)
  refine z_aload_n F dX3_readRoad_20 rfl ?_
  refine zg_X6_trip F (by with_reducible assumption) fl_X3_40 dX3_readRoad_21 (fun hk_21 => ?_)
  refine z_callVv F (d_X5_setFrom J (by with_reducible assumption) (by with_reducible assumption) (by omega)) zm_X5_setFrom zv_X5_setFrom ml_X3_41 (by with_reducible assumption) (by decide) rfl rfl rfl (Nat.le_of_ble_eq_true rfl) dX3_readRoad_24 (by omega) (fun M_24 h_24 => ?_)
  replace h_24 := Eq.symm h_24
  subst h_24
  rw [w0]
  refine z_aload_n F dX3_readRoad_27 rfl ?_
  refine zg_X3_road F (by with_reducible assumption) fl_X3_18 dX3_readRoad_28 (fun hk_28 => ?_)
  refine z_iconst (v := 0) F dX3_readRoad_31 (by decide) ?_
  refine zp_X1_thingCount F (by with_reducible assumption) fl_X3_44 dX3_readRoad_32 ?_
  refine z_aload_n F dX3_readRoad_35 rfl ?_
  refine zg_X3_road F (by with_reducible assumption) fl_X3_18 dX3_readRoad_36 (fun hk_36 => ?_)
  refine z_iconst (v := 0) F dX3_readRoad_39 (by decide) ?_
  refine zp_X1_personCount F (by with_reducible assumption) fl_X3_47 dX3_readRoad_40 ?_
  refine z_aload_n F dX3_readRoad_43 rfl ?_
  refine zg_X3_trip F (by with_reducible assumption) fl_X3_25 dX3_readRoad_44 (fun hk_44 => ?_)
  refine z_callVv F (c_X5_setOut J (by with_reducible assumption)) zm_X5_setOut zv_X5_setOut ml_X3_50 (by with_reducible assumption) (by decide) rfl rfl rfl (Nat.le_of_ble_eq_true rfl) dX3_readRoad_47 (by omega) (fun M_47 h_47 => ?_)
  replace h_47 := Eq.symm h_47
  subst h_47
  generalize zs (zs (zs (zs (zs (zs (za (zrd (zs M tp 2 0) (tp + 2) (M.1 (n + 1)) (M.1 (n + 1 + 1)) (M.1 (n + 1 + 12))) (tp + 16) (M.1 (n + 15))) (tp + 2) 0 0) (tp + 2) 1 0) (tp + 16) 0 (-4)) (tp + 16) 1 0) (tp + 16) 2 0) (tp + 16) 3 0 = B at hB ⊢
  have okB := hB.ok hl h120 hL (Nat.zero_le _)
  have hLB := hLM hB
  have hZ := thiL_le (L := M.1 (tp + 1)) (len := len) 10 (0, 0, M.1 (n + 1 + 1)) (Nat.zero_le _)
  refine z_aload_n F dX3_readRoad_50 rfl ?_
  refine z_callVi F (c_X3_readThings J hk okB (by rw [hB.2.1]; rfl)) zm_X3_readThings zv_X3_readThings ml_X3_53 (by with_reducible assumption) (by decide) rfl rfl rfl (Nat.le_of_ble_eq_true rfl) dX3_readRoad_51 (by omega) (fun r_51 M_51 h_51 => ?_)
  obtain ⟨e_51, m_51⟩ := h_51
  rw [hLB, hB.2.2.1] at e_51 m_51
  replace e_51 : r_51 = (thiL (M.1 (tp + 1)) len 10 (0, 0, M.1 (n + 1 + 1))).1 := e_51
  replace m_51 : M_51 = tpZ B tp (thiL (M.1 (tp + 1)) len 10 (0, 0, M.1 (n + 1 + 1))).2 := m_51
  subst e_51
  subst m_51
  refine z_if_ne (tgt := 59) F dX3_readRoad_54 (by decide) (fun h_54 => ?_) (fun h_54 => ?_)
  · rw [if_neg h_54] at hR
    exact jP _ _ _ _ _ _ hZ.1 (hB.Z _) hR
  · refine z_iconst (v := 0) F dX3_readRoad_57 (by decide) ?_
    refine z_zret F X dX3_readRoad_58 (by decide) ?_
    rw [if_pos h_54] at hR
    subst hR
    exact ⟨rfl, _, hB.Z _, fun z => absurd rfl z⟩
