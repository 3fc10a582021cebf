/-- the next letter behind blanks: its place; the letter (0 at the end) -/
def nxP (L : zF1) : Nat → Nat → Nat
  | 0, p => p
  | j + 1, p => if L p = 32 then nxP L j (p + 1) else p
def chF (L : zF1) (len p : Nat) : Int32 := if p < len then L p else 0
theorem nxP_le (L : zF1) : ∀ (j p : Nat), p ≤ nxP L j p ∧ nxP L j p ≤ p + j
  | 0, p => ⟨Nat.le_refl _, Nat.le_refl _⟩
  | j + 1, p => by
    unfold nxP
    split
    · have := nxP_le L j (p + 1); omega
    · omega
/-- letters are small -/
def ltOK (L : zF1) (len : Nat) : Prop := ∀ q, q < len → ∃ c, c < 128 ∧ L q = nI c
theorem chF_n {L : zF1} {len : Nat} (h : ltOK L len) (p : Nat) : ∃ c, c < 128 ∧ chF L len p = nI c := by
  unfold chF
  split
  · next q => exact h p q
  · exact ⟨0, by omega, rfl⟩
theorem chF_nar {L : zF1} {len : Nat} (h : ltOK L len) (p : Nat) : narrow .char (.int (chF L len p)) = .int (chF L len p) := by
  obtain ⟨c, h1, h2⟩ := chF_n h p
  rw [h2]
  exact (pk_charN (by omega)).1
/-- the tape at tp: its length, how far it is read -/
def tpOK (M : zM) (tp len p : Nat) : Prop := M.1 tp 1 = nI len ∧ len ≤ 120 ∧ M.1 tp 2 = nI p ∧ p ≤ len ∧ ltOK (M.1 (tp + 1)) len
theorem zs_id {M : zM} {b o : Nat} {v : Int32} (h : M.1 b o = v) : zs M b o v = M := by rw [zs_za, ← h, va_up_id, za_self]
theorem zs_zs (M : zM) (b o : Nat) (u v : Int32) : zs (zs M b o u) b o v = zs M b o v := by rw [zs_za, zs_za, zs_za, za_at, bx_uu, za_za]
theorem tpOK.to {M : zM} {tp len p q : Nat} (h : tpOK M tp len p) (hq : q ≤ len) : tpOK (zs M tp 2 (nI q)) tp len q := by
  unfold tpOK at *
  rw [zs_at, va_up_ne _ _ (by decide), va_up_self, zs_off _ (by omega)]
  exact ⟨h.1, h.2.1, rfl, hq, h.2.2.2.2⟩
theorem c_X3_next {l : Launch} {w : zE} (J : zJ w) {M : zM} {tp len p : Nat} (hk : zk tp = 3) (ok : tpOK M tp len p) : zCi l w yX3_next cX3_next 1 (some .char) 0 [.ref (w.2.2 tp)] M (fun v M2 => M2 = zs M tp 2 (nI (nxP (M.1 (tp + 1)) (len - p) p)) ∧ v = chF (M.1 (tp + 1)) len (nxP (M.1 (tp + 1)) (len - p) p)) := by
  obtain ⟨o1, o2, o3, o4, o5⟩ := ok
  refine zCi_of J zm_X3_next [some (.ref (w.2.2 tp))] (Nat.le_of_ble_eq_true rfl) rfl (fun g hg F X => ?_)
  subst hg
  generalize hL : M.1 (tp + 1) = L at o5 X
  generalize hr : nxP L (len - p) p = r at X
  have hn1 : (tp + 1) ≠ tp := by omega
  have key : ∀ (j q : Nat), q + j = len → nxP L j q = r → ZW w g 1 0 [some (.ref (w.2.2 tp))] [] (zs M tp 2 (nI q)) := by
    intro j
    induction j with
    | zero =>
      intro q hq hs
      have hs : q = r := hs
      subst hs
      have hqn : q = len := by omega
      subst hqn
      have c1 : (zs M tp 2 (nI q)).1 tp 1 = nI q := by rw [zs_at, va_up_ne _ _ (by decide), o1]
      have c2 : (zs M tp 2 (nI q)).1 tp 2 = nI q := by rw [zs_at, va_up_self]
      refine z_aload_n F dX3_next_0 rfl ?_
      refine zg_X3_place F (by with_reducible assumption) fl_X3_29 dX3_next_1 ?_
      try simp only [c1, c2]
      refine z_aload_n F dX3_next_4 rfl ?_
      refine zg_X3_length F (by with_reducible assumption) fl_X3_106 dX3_next_5 ?_
      try simp only [c1, c2]
      refine z_ic_ge (tgt := 38) F dX3_next_8 (by decide) (fun h_8 => ?_) (fun h_8 => absurd h_8 (Int32.not_lt.mpr (nI_le (Nat.le_refl _) (by omega))))
      refine z_aload_n F dX3_next_38 rfl ?_
      refine zg_X3_place F (by with_reducible assumption) fl_X3_29 dX3_next_39 ?_
      try simp only [c1, c2]
      refine z_aload_n F dX3_next_42 rfl ?_
      refine zg_X3_length F (by with_reducible assumption) fl_X3_106 dX3_next_43 ?_
      try simp only [c1, c2]
      refine z_ic_ge (tgt := 61) F dX3_next_46 (by decide) (fun h_46 => ?_) (fun h_46 => absurd h_46 (Int32.not_lt.mpr (nI_le (Nat.le_refl _) (by omega))))
      refine z_iconst (v := 0) F dX3_next_61 (by decide) ?_
      refine z_zret F X dX3_next_62 (by rfl) ?_
      exact ⟨rfl, by rw [chF, if_neg (by omega)]⟩
    | succ j ih =>
      intro q hq hs
      have c1 : (zs M tp 2 (nI q)).1 tp 1 = nI len := by rw [zs_at, va_up_ne _ _ (by decide), o1]
      have c2 : (zs M tp 2 (nI q)).1 tp 2 = nI q := by rw [zs_at, va_up_self]
      have c3 : (zs M tp 2 (nI q)).1 (tp + 1) = L := by rw [zs_off _ hn1, hL]
      have hpin : vp_in (nI q) 120 := vp_in_nI (by omega) (by decide)
      have hpc : (nI q).toNatClampNeg = q := nI_clamp (by omega)
      have hc : chF L len q = L q := if_pos (by omega)
      rw [nxP] at hs
      refine z_aload_n F dX3_next_0 rfl ?_
      refine zg_X3_place F (by with_reducible assumption) fl_X3_29 dX3_next_1 ?_
      try simp only [c1, c2, c3, hpc]
      refine z_aload_n F dX3_next_4 rfl ?_
      refine zg_X3_length F (by with_reducible assumption) fl_X3_106 dX3_next_5 ?_
      try simp only [c1, c2, c3, hpc]
      refine z_ic_ge (tgt := 38) F dX3_next_8 (by decide) (fun h_8 => absurd h_8 (Int32.not_le.mpr (nI_lt (by omega) (by omega)))) (fun h_8 => ?_)
      refine z_aload_n F dX3_next_11 rfl ?_
      refine zg_X3_letters F (by with_reducible assumption) fl_X3_9 dX3_next_12 (fun hk_12 => ?_)
      refine z_aload_n F dX3_next_15 rfl ?_
      refine zg_X3_place F (by with_reducible assumption) fl_X3_29 dX3_next_16 ?_
      try simp only [c1, c2, c3, hpc]
      refine z_cald9 F (by with_reducible assumption) hpin dX3_next_19 ?_
      try simp only [c1, c2, c3, hpc]
      refine z_bipush (v := 32) F dX3_next_20 (by decide) ?_
      refine z_ic_ne (tgt := 38) F dX3_next_22 (by decide) (fun h_22 => ?_) (fun h_22 => ?_)
      · try simp only [c1, c2, c3, hpc] at h_22
        refine z_aload_n F dX3_next_38 rfl ?_
        refine zg_X3_place F (by with_reducible assumption) fl_X3_29 dX3_next_39 ?_
        try simp only [c1, c2, c3, hpc]
        refine z_aload_n F dX3_next_42 rfl ?_
        refine zg_X3_length F (by with_reducible assumption) fl_X3_106 dX3_next_43 ?_
        try simp only [c1, c2, c3, hpc]
        refine z_ic_ge (tgt := 61) F dX3_next_46 (by decide) (fun h_46 => absurd h_46 (Int32.not_le.mpr (nI_lt (by omega) (by omega)))) (fun h_46 => ?_)
        refine z_aload_n F dX3_next_49 rfl ?_
        refine zg_X3_letters F (by with_reducible assumption) fl_X3_9 dX3_next_50 (fun hk_50 => ?_)
        refine z_aload_n F dX3_next_53 rfl ?_
        refine zg_X3_place F (by with_reducible assumption) fl_X3_29 dX3_next_54 ?_
        try simp only [c1, c2, c3, hpc]
        refine z_cald9 F (by with_reducible assumption) hpin dX3_next_57 ?_
        try simp only [c1, c2, c3, hpc]
        refine z_goto (tgt := 62) F dX3_next_58 (by decide) ?_
        refine z_zret F X dX3_next_62 (by rw [← hc]; exact chF_nar o5 q) ?_
        rw [if_neg h_22] at hs
        subst hs
        exact ⟨rfl, hc.symm⟩
      · try simp only [c1, c2, c3, hpc] at h_22
        refine z_aload_n F dX3_next_25 rfl ?_
        refine z_dup F dX3_next_26 rfl ?_
        refine zg_X3_place F (by with_reducible assumption) fl_X3_29 dX3_next_27 ?_
        try simp only [c1, c2, c3, hpc]
        refine z_iconst (v := 1) F dX3_next_30 (by decide) ?_
        refine z_iadd F dX3_next_31 ?_
        refine zp_X3_place F (by with_reducible assumption) fl_X3_29 dX3_next_32 ?_
        refine z_goto (tgt := 0) F dX3_next_35 (by decide) ?_
        rw [if_pos h_22] at hs
        rw [zs_zs, nI_1]
        exact ih (q + 1) (by omega) hs
  have k0 := key (len - p) p (by omega) hr
  rw [zs_id o3] at k0
  exact k0
abbrev dgF (c : Int32) : Prop := 48 ≤ c ∧ c ≤ 57
theorem c_X3_isDigit {l : Launch} {w : zE} (J : zJ w) {M : zM} {c : Int32} : zCi l w yX3_isDigit cX3_isDigit 1 (some .boolean) 0 [.int c] M (fun v M2 => M2 = M ∧ v = bI (dgF c)) := by
  refine zCi_of J zm_X3_isDigit [some (.int c)] (Nat.le_of_ble_eq_true rfl) rfl (fun g hg F X => ?_)
  subst hg
  refine z_iload_n F dX3_isDigit_0 rfl ?_
  refine z_bipush (v := 48) F dX3_isDigit_1 (by decide) ?_
  refine z_ic_lt (tgt := 16) F dX3_isDigit_3 (by decide) (fun h_3 => ?_) (fun h_3 => ?_)
  · refine z_iconst (v := 0) F dX3_isDigit_16 (by decide) ?_
    refine z_zret F X dX3_isDigit_17 (by decide) ?_
    refine ⟨rfl, ?_⟩
    first | exact bI_t ⟨h_3, h_9⟩ | exact bI_f (fun q => nle h_3 q.1) | exact bI_f (fun q => nle h_9 q.2)
  · refine z_iload_n F dX3_isDigit_6 rfl ?_
    refine z_bipush (v := 57) F dX3_isDigit_7 (by decide) ?_
    refine z_ic_gt (tgt := 16) F dX3_isDigit_9 (by decide) (fun h_9 => ?_) (fun h_9 => ?_)
    · refine z_iconst (v := 0) F dX3_isDigit_16 (by decide) ?_
      refine z_zret F X dX3_isDigit_17 (by decide) ?_
      refine ⟨rfl, ?_⟩
      first | exact bI_t ⟨h_3, h_9⟩ | exact bI_f (fun q => nle h_3 q.1) | exact bI_f (fun q => nle h_9 q.2)
    · refine z_iconst (v := 1) F dX3_isDigit_12 (by decide) ?_
      refine z_goto (tgt := 17) F dX3_isDigit_13 (by decide) ?_
      refine z_zret F X dX3_isDigit_17 (by decide) ?_
      refine ⟨rfl, ?_⟩
      first | exact bI_t ⟨h_3, h_9⟩ | exact bI_f (fun q => nle h_3 q.1) | exact bI_f (fun q => nle h_9 q.2)
/-- a letter, if it stands next -/
def rdP (L : zF1) (len p : Nat) (c : Int32) : Nat := if chF L len (nxP L (len - p) p) = c then nxP L (len - p) p + 1 else nxP L (len - p) p
abbrev rdB (L : zF1) (len p : Nat) (c : Int32) : Prop := chF L len (nxP L (len - p) p) = c
theorem rdP_le {L : zF1} {len p : Nat} {c : Int32} (hp : p ≤ len) (hc : ¬ c = 0) : rdP L len p c ≤ len := by
  have := nxP_le L (len - p) p
  unfold rdP
  split
  · next h =>
    unfold chF at h
    split at h
    · omega
    · exact absurd h.symm hc
  · omega
theorem c_X3_reads {l : Launch} {w : zE} (J : zJ w) {M : zM} {tp len p : Nat} {c : Int32} (hk : zk tp = 3) (ok : tpOK M tp len p) : zCi l w yX3_reads cX3_reads 2 (some .boolean) 1 [.ref (w.2.2 tp), .int c] M (fun v M2 => M2 = zs M tp 2 (nI (rdP (M.1 (tp + 1)) len p c)) ∧ v = bI (rdB (M.1 (tp + 1)) len p c)) := by
  refine zCi_of J zm_X3_reads [some (.ref (w.2.2 tp)), some (.int c)] (Nat.le_of_ble_eq_true rfl) rfl (fun g hg F X => ?_)
  subst hg
  refine z_aload_n F dX3_reads_0 rfl ?_
  refine z_callVi F (c_X3_next J hk ok) zm_X3_next zv_X3_next ml_X3_61 (by with_reducible assumption) (by decide) rfl rfl rfl (Nat.le_of_ble_eq_true rfl) dX3_reads_1 (by omega) (fun r_1 M_1 h_1 => ?_)
  obtain ⟨e_1, rfl⟩ := h_1
  replace e_1 := Eq.symm e_1
  subst e_1
  refine z_iload_n F dX3_reads_4 rfl ?_
  refine z_ic_eq (tgt := 10) F dX3_reads_5 (by decide) (fun h_5 => ?_) (fun h_5 => ?_)
  · try simp only [zs_at, va_up_self] at h_5
    refine z_aload_n F dX3_reads_10 rfl ?_
    refine z_dup F dX3_reads_11 rfl ?_
    refine zg_X3_place F (by with_reducible assumption) fl_X3_29 dX3_reads_12 ?_
    try simp only [zs_at, va_up_self]
    refine z_iconst (v := 1) F dX3_reads_15 (by decide) ?_
    refine z_iadd F dX3_reads_16 ?_
    refine zp_X3_place F (by with_reducible assumption) fl_X3_29 dX3_reads_17 ?_
    refine z_iconst (v := 1) F dX3_reads_20 (by decide) ?_
    refine z_zret F X dX3_reads_21 (by decide) ?_
    rw [zs_zs, nI_1]
    exact ⟨by rw [rdP, if_pos h_5], bI_t h_5⟩
  · try simp only [zs_at, va_up_self] at h_5
    refine z_iconst (v := 0) F dX3_reads_8 (by decide) ?_
    refine z_zret F X dX3_reads_9 (by decide) ?_
    exact ⟨by rw [rdP, if_neg h_5], bI_f h_5⟩
/-- the digits of a number, which stays below the most + 2 -/
def nmP (L : zF1) (most : Int32) : Nat → Nat → Int32 → Int32 × Nat
  | 0, p, n => (n, p)
  | j + 1, p, n => if dgF (L p) then nmP L most j (p + 1) (if most + 1 < n * 10 + L p - 48 then most + 1 else n * 10 + L p - 48) else (n, p)
theorem nmP_le (L : zF1) (most : Int32) : ∀ (j p : Nat) (n : Int32), (nmP L most j p n).2 ≤ p + j
  | 0, p, n => Nat.le_refl _
  | j + 1, p, n => by
    unfold nmP
    split
    · have := nmP_le L most j (p + 1) (if most + 1 < n * 10 + L p - 48 then most + 1 else n * 10 + L p - 48); omega
    · show p ≤ _; omega
/-- a number up to the most, and the place behind it; or -1, and its own place -/
def numF (L : zF1) (len p : Nat) (most : Int32) : Int32 × Nat :=
  if dgF (chF L len (nxP L (len - p) p)) then
    (if most < (nmP L most (len - nxP L (len - p) p) (nxP L (len - p) p) 0).1 then (-1, nxP L (len - p) p) else nmP L most (len - nxP L (len - p) p) (nxP L (len - p) p) 0)
  else (-1, nxP L (len - p) p)
theorem numF_le {L : zF1} {len p : Nat} {most : Int32} (hp : p ≤ len) : (numF L len p most).2 ≤ len := by
  have := nxP_le L (len - p) p
  unfold numF
  split
  · split
    · show nxP L (len - p) p ≤ len; omega
    · have := nmP_le L most (len - nxP L (len - p) p) (nxP L (len - p) p) 0; omega
  · show nxP L (len - p) p ≤ len; omega
theorem c_X3_readNumber {l : Launch} {w : zE} (J : zJ w) {M : zM} {tp len p : Nat} {most : Int32} (hk : zk tp = 3) (ok : tpOK M tp len p) : zCi l w yX3_readNumber cX3_readNumber 4 (some .int) 1 [.ref (w.2.2 tp), .int most] M (fun v M2 => M2 = zs M tp 2 (nI (numF (M.1 (tp + 1)) len p most).2) ∧ v = (numF (M.1 (tp + 1)) len p most).1) := by
  obtain ⟨o1, o2, o3, o4, o5⟩ := id ok
  have hn1 : (tp + 1) ≠ tp := by omega
  refine zCi_of J zm_X3_readNumber [some (.ref (w.2.2 tp)), some (.int most), none, none] (Nat.le_of_ble_eq_true rfl) rfl (fun g hg F X => ?_)
  subst hg
  have hqle := nxP_le (M.1 (tp + 1)) (len - p) p
  generalize hL : M.1 (tp + 1) = L at o5 X hqle
  generalize hq : nxP L (len - p) p = q0 at hqle
  have key : dgF (chF L len q0) → ∀ (j q : Nat) (n : Int32), q + j = len → nmP L most j q n = nmP L most (len - q0) q0 0 → ZW w g 4 19 [some (.ref (w.2.2 tp)), some (.int most), some (.int (nI q0)), some (.int n)] [] (zs M tp 2 (nI q)) := by
    intro hdg
    have hfin : numF L len p most = if most < (nmP L most (len - q0) q0 0).1 then (-1, q0) else nmP L most (len - q0) q0 0 := by
      unfold numF
      rw [hq, if_pos hdg]
    intro j
    induction j with
    | zero =>
      intro q n hqj hs
      have hqn : q = len := by omega
      subst hqn
      have c1 : (zs M tp 2 (nI q)).1 tp 1 = nI q := by rw [zs_at, va_up_ne _ _ (by decide), o1]
      have c2 : (zs M tp 2 (nI q)).1 tp 2 = nI q := by rw [zs_at, va_up_self]
      have hs : (n, q) = nmP L most (q - q0) q0 0 := hs
      rw [← hs] at hfin
      refine z_aload_n F dX3_readNumber_19 rfl ?_
      refine zg_X3_place F (by with_reducible assumption) fl_X3_29 dX3_readNumber_20 ?_
      try simp only [c1, c2]
      refine z_aload_n F dX3_readNumber_23 rfl ?_
      refine zg_X3_length F (by with_reducible assumption) fl_X3_106 dX3_readNumber_24 ?_
      try simp only [c1, c2]
      refine z_ic_ge (tgt := 82) F dX3_readNumber_27 (by decide) (fun h_27 => ?_) (fun h_27 => absurd h_27 (Int32.not_lt.mpr (nI_le (Nat.le_refl _) (by omega))))
      refine z_iload_n F dX3_readNumber_82 rfl ?_
      refine z_iload_n F dX3_readNumber_83 rfl ?_
      refine z_ic_le (tgt := 94) F dX3_readNumber_84 (by decide) (fun h_84 => ?_) (fun h_84 => ?_)
      · try simp only [c1, c2] at h_84
        refine z_iload_n F dX3_readNumber_94 rfl ?_
        refine z_iret F X dX3_readNumber_95 ?_
        rw [if_neg (nlt h_84)] at hfin
        rw [hfin]
        exact ⟨rfl, rfl⟩
      · try simp only [c1, c2] at h_84
        refine z_aload_n F dX3_readNumber_87 rfl ?_
        refine z_iload_n F dX3_readNumber_88 rfl ?_
        refine zp_X3_place F (by with_reducible assumption) fl_X3_29 dX3_readNumber_89 ?_
        refine z_iconst (v := (-1)) F dX3_readNumber_92 (by decide) ?_
        refine z_iret F X dX3_readNumber_93 ?_
        rw [if_pos h_84] at hfin
        rw [hfin, zs_zs]
        exact ⟨rfl, rfl⟩
    | succ j ih =>
      intro q n hqj hs
      have c1 : (zs M tp 2 (nI q)).1 tp 1 = nI len := by rw [zs_at, va_up_ne _ _ (by decide), o1]
      have c2 : (zs M tp 2 (nI q)).1 tp 2 = nI q := by rw [zs_at, va_up_self]
      have c3 : (zs M tp 2 (nI q)).1 (tp + 1) = L := by rw [zs_off _ hn1, hL]
      have hpin : vp_in (nI q) 120 := vp_in_nI (by omega) (by decide)
      have hpc : (nI q).toNatClampNeg = q := nI_clamp (by omega)
      rw [nmP] at hs
      refine z_aload_n F dX3_readNumber_19 rfl ?_
      refine zg_X3_place F (by with_reducible assumption) fl_X3_29 dX3_readNumber_20 ?_
      try simp only [c1, c2, c3, hpc]
      refine z_aload_n F dX3_readNumber_23 rfl ?_
      refine zg_X3_length F (by with_reducible assumption) fl_X3_106 dX3_readNumber_24 ?_
      try simp only [c1, c2, c3, hpc]
      refine z_ic_ge (tgt := 82) F dX3_readNumber_27 (by decide) (fun h_27 => absurd h_27 (Int32.not_le.mpr (nI_lt (by omega) (by omega)))) (fun h_27 => ?_)
      refine z_aload_n F dX3_readNumber_30 rfl ?_
      refine zg_X3_letters F (by with_reducible assumption) fl_X3_9 dX3_readNumber_31 (fun hk_31 => ?_)
      refine z_aload_n F dX3_readNumber_34 rfl ?_
      refine zg_X3_place F (by with_reducible assumption) fl_X3_29 dX3_readNumber_35 ?_
      try simp only [c1, c2, c3, hpc]
      refine z_cald9 F (by with_reducible assumption) hpin dX3_readNumber_38 ?_
      try simp only [c1, c2, c3, hpc]
      refine z_callSi F (c_X3_isDigit J) zm_X3_isDigit zst_X3_isDigit ml_X3_65 rfl rfl (Nat.le_of_ble_eq_true rfl) dX3_readNumber_39 (by omega) (fun r_39 M_39 h_39 => ?_)
      obtain ⟨e_39, rfl⟩ := h_39
      replace e_39 := Eq.symm e_39
      subst e_39
      refine z_if_eq (tgt := 82) F dX3_readNumber_42 (by decide) (fun h_42 => ?_) (fun h_42 => ?_)
      · replace h_42 := bI_0.mp h_42
        try simp only [c1, c2, c3, hpc] at h_42
        refine z_iload_n F dX3_readNumber_82 rfl ?_
        refine z_iload_n F dX3_readNumber_83 rfl ?_
        refine z_ic_le (tgt := 94) F dX3_readNumber_84 (by decide) (fun h_84 => ?_) (fun h_84 => ?_)
        · try simp only [c1, c2, c3, hpc] at h_84
          refine z_iload_n F dX3_readNumber_94 rfl ?_
          refine z_iret F X dX3_readNumber_95 ?_
          rw [if_neg h_42] at hs
          rw [← hs, if_neg (nlt h_84)] at hfin
          rw [hfin]
          exact ⟨rfl, rfl⟩
        · try simp only [c1, c2, c3, hpc] at h_84
          refine z_aload_n F dX3_readNumber_87 rfl ?_
          refine z_iload_n F dX3_readNumber_88 rfl ?_
          refine zp_X3_place F (by with_reducible assumption) fl_X3_29 dX3_readNumber_89 ?_
          refine z_iconst (v := (-1)) F dX3_readNumber_92 (by decide) ?_
          refine z_iret F X dX3_readNumber_93 ?_
          rw [if_neg h_42] at hs
          rw [← hs, if_pos h_84] at hfin
          rw [hfin, zs_zs]
          exact ⟨rfl, rfl⟩
      · replace h_42 := bI_1.mp h_42
        try simp only [c1, c2, c3, hpc] at h_42
        refine z_iload_n F dX3_readNumber_45 rfl ?_
        refine z_bipush (v := 10) F dX3_readNumber_46 (by decide) ?_
        refine z_imul F dX3_readNumber_48 ?_
        refine z_aload_n F dX3_readNumber_49 rfl ?_
        refine zg_X3_letters F (by with_reducible assumption) fl_X3_9 dX3_readNumber_50 (fun hk_50 => ?_)
        refine z_aload_n F dX3_readNumber_53 rfl ?_
        refine zg_X3_place F (by with_reducible assumption) fl_X3_29 dX3_readNumber_54 ?_
        try simp only [c1, c2, c3, hpc]
        refine z_cald9 F (by with_reducible assumption) hpin dX3_readNumber_57 ?_
        try simp only [c1, c2, c3, hpc]
        refine z_iadd F dX3_readNumber_58 ?_
        refine z_bipush (v := 48) F dX3_readNumber_59 (by decide) ?_
        refine z_isub F dX3_readNumber_61 ?_
        refine z_iload_n F dX3_readNumber_62 rfl ?_
        refine z_iconst (v := 1) F dX3_readNumber_63 (by decide) ?_
        refine z_iadd F dX3_readNumber_64 ?_
        refine z_min F mi_X3_109 (Nat.le_of_ble_eq_true rfl) dX3_readNumber_65 (by omega) ?_
        refine z_istore_n (lv' := [_, _, _, _]) F dX3_readNumber_68 (by decide) rfl rfl ?_
        refine z_aload_n F dX3_readNumber_69 rfl ?_
        refine z_dup F dX3_readNumber_70 rfl ?_
        refine zg_X3_place F (by with_reducible assumption) fl_X3_29 dX3_readNumber_71 ?_
        try simp only [c1, c2, c3, hpc]
        refine z_iconst (v := 1) F dX3_readNumber_74 (by decide) ?_
        refine z_iadd F dX3_readNumber_75 ?_
        refine zp_X3_place F (by with_reducible assumption) fl_X3_29 dX3_readNumber_76 ?_
        refine z_goto (tgt := 19) F dX3_readNumber_79 (by decide) ?_
        rw [if_pos h_42] at hs
        rw [zs_zs, nI_1]
        exact ih (q + 1) _ (by omega) hs
  refine z_aload_n F dX3_readNumber_0 rfl ?_
  refine z_callVi F (c_X3_next J hk ok) zm_X3_next zv_X3_next ml_X3_61 (by with_reducible assumption) (by decide) rfl rfl rfl (Nat.le_of_ble_eq_true rfl) dX3_readNumber_1 (by omega) (fun r_1 M_1 h_1 => ?_)
  obtain ⟨e_1, rfl⟩ := h_1
  replace e_1 := Eq.symm e_1
  subst e_1
  refine z_callSi F (c_X3_isDigit J) zm_X3_isDigit zst_X3_isDigit ml_X3_65 rfl rfl (Nat.le_of_ble_eq_true rfl) dX3_readNumber_4 (by omega) (fun r_4 M_4 h_4 => ?_)
  obtain ⟨e_4, rfl⟩ := h_4
  replace e_4 := Eq.symm e_4
  subst e_4
  refine z_if_ne (tgt := 12) F dX3_readNumber_7 (by decide) (fun h_7 => ?_) (fun h_7 => ?_)
  · replace h_7 := bI_1.mp h_7
    try simp only [zs_at, va_up_self] at h_7
    refine z_aload_n F dX3_readNumber_12 rfl ?_
    refine zg_X3_place F (by with_reducible assumption) fl_X3_29 dX3_readNumber_13 ?_
    try simp only [zs_at, va_up_self]
    refine z_istore_n (lv' := [_, _, _, _]) F dX3_readNumber_16 (by decide) rfl rfl ?_
    refine z_iconst (v := 0) F dX3_readNumber_17 (by decide) ?_
    refine z_istore_n (lv' := [_, _, _, _]) F dX3_readNumber_18 (by decide) rfl rfl ?_
    rw [hL, hq] at h_7 ⊢
    exact key h_7 (len - q0) q0 0 (by omega) rfl
  · replace h_7 := bI_0.mp h_7
    try simp only [zs_at, va_up_self] at h_7
    refine z_iconst (v := (-1)) F dX3_readNumber_10 (by decide) ?_
    refine z_iret F X dX3_readNumber_11 ?_
    rw [hL, hq] at h_7
    have e : numF L len p most = (-1, q0) := by unfold numF; rw [hq, if_neg h_7]
    rw [e, hL, hq]
    exact ⟨rfl, rfl⟩
