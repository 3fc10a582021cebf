/-! the reference reads its tape: what stands while it does -/
theorem ZW_gen {w : zE} {g : zG} {nL pc : Nat} {lv : List (Option Value)} {st : List Value} {M : zM} (P : zM → Prop) (h : P M) (k : ∀ M1, P M1 → ZW w g nL pc lv st M1) : ZW w g nL pc lv st M := k M h
def pfr (M M' : zM) : Prop := M'.2 = M.2 ∧ (∀ b, b ≠ 138 → b ≠ 143 → b ≠ 144 → M'.1 b = M.1 b) ∧ (∀ k, (k < 11 ∨ 14 < k) → M'.1 138 k = M.1 138 k)
def RS (M0 M : zM) (p : Nat) (wr : Int32) (n m : Nat) (th pe : zF1) : Prop := pfr M0 M ∧ M.1 138 11 = nI p ∧ M.1 138 12 = wr ∧ M.1 138 13 = nI n ∧ M.1 138 14 = nI m ∧ M.1 143 = th ∧ M.1 144 = pe
theorem pfr.s {M M' : zM} (h : pfr M M') {k : Nat} {v : Int32} (hk : 11 ≤ k ∧ k ≤ 14) : pfr M (zs M' 138 k v) :=
  ⟨h.1, fun b h1 h2 h3 => (zs_off _ h1).trans (h.2.1 b h1 h2 h3), fun q hq => by rw [zs_g, if_neg (by omega)]; exact h.2.2 q hq⟩
theorem pfr.b {M M' : zM} (h : pfr M M') {b k : Nat} {v : Int32} (hb : b = 143 ∨ b = 144) : pfr M (zs M' b k v) :=
  ⟨h.1, fun c h1 h2 h3 => (zs_off _ (by omega)).trans (h.2.1 c h1 h2 h3), fun q hq => by rw [zs_g, if_neg (by omega)]; exact h.2.2 q hq⟩
theorem RS.at {M0 M : zM} {p n m : Nat} {wr : Int32} {th pe : zF1} (h : RS M0 M p wr n m th pe) (q : Nat) : RS M0 (zs M 138 11 (nI q)) q wr n m th pe := by
  obtain ⟨h1, h2, h3, h4, h5, h6, h7⟩ := h
  refine ⟨h1.s (by decide), by simp +decide only [zs_g, if_true], ?_, ?_, ?_, (zs_off _ (by decide)).trans h6, (zs_off _ (by decide)).trans h7⟩ <;> simp +decide only [zs_g, if_false] <;> assumption
theorem RS.wr {M0 M : zM} {p n m : Nat} {wr : Int32} {th pe : zF1} (h : RS M0 M p wr n m th pe) (v : Int32) : RS M0 (zs M 138 12 v) p v n m th pe := by
  obtain ⟨h1, h2, h3, h4, h5, h6, h7⟩ := h
  refine ⟨h1.s (by decide), ?_, by simp +decide only [zs_g, if_true], ?_, ?_, (zs_off _ (by decide)).trans h6, (zs_off _ (by decide)).trans h7⟩ <;> simp +decide only [zs_g, if_false] <;> assumption
theorem RS.mt {M0 M : zM} {p n m : Nat} {wr : Int32} {th pe : zF1} (h : RS M0 M p wr n m th pe) (q : Nat) : RS M0 (zs M 138 13 (nI q)) p wr q m th pe := by
  obtain ⟨h1, h2, h3, h4, h5, h6, h7⟩ := h
  refine ⟨h1.s (by decide), ?_, ?_, by simp +decide only [zs_g, if_true], ?_, (zs_off _ (by decide)).trans h6, (zs_off _ (by decide)).trans h7⟩ <;> simp +decide only [zs_g, if_false] <;> assumption
theorem RS.mp {M0 M : zM} {p n m : Nat} {wr : Int32} {th pe : zF1} (h : RS M0 M p wr n m th pe) (q : Nat) : RS M0 (zs M 138 14 (nI q)) p wr n q th pe := by
  obtain ⟨h1, h2, h3, h4, h5, h6, h7⟩ := h
  refine ⟨h1.s (by decide), ?_, ?_, ?_, by simp +decide only [zs_g, if_true], (zs_off _ (by decide)).trans h6, (zs_off _ (by decide)).trans h7⟩ <;> simp +decide only [zs_g, if_false] <;> assumption
theorem RS.th {M0 M : zM} {p n m : Nat} {wr : Int32} {th pe : zF1} (h : RS M0 M p wr n m th pe) (q : Nat) (v : Int32) : RS M0 (zs M 143 q v) p wr n m (va_up th q v) pe := by
  obtain ⟨h1, h2, h3, h4, h5, h6, h7⟩ := h
  refine ⟨h1.b (Or.inl rfl), ?_, ?_, ?_, ?_, by rw [zs_at, h6], (zs_off _ (by decide)).trans h7⟩ <;> simp +decide only [zs_g, if_false] <;> assumption
theorem RS.pe {M0 M : zM} {p n m : Nat} {wr : Int32} {th pe : zF1} (h : RS M0 M p wr n m th pe) (q : Nat) (v : Int32) : RS M0 (zs M 144 q v) p wr n m th (va_up pe q v) := by
  obtain ⟨h1, h2, h3, h4, h5, h6, h7⟩ := h
  refine ⟨h1.b (Or.inr rfl), ?_, ?_, ?_, ?_, (zs_off _ (by decide)).trans h6, by rw [zs_at, h7]⟩ <;> simp +decide only [zs_g, if_false] <;> assumption
theorem RS.len {M0 M : zM} {p n m len : Nat} {wr : Int32} {th pe : zF1} (h : RS M0 M p wr n m th pe) (hl : M0.1 138 10 = nI len) : M.1 138 10 = nI len := (h.1.2.2 10 (by decide)).trans hl
theorem RS.L {M0 M : zM} {p n m : Nat} {wr : Int32} {th pe : zF1} (h : RS M0 M p wr n m th pe) : M.1 142 = M0.1 142 := h.1.2.1 142 (by decide) (by decide) (by decide)
theorem p_here {l : Launch} {w : zE} (J : zJ w) {M0 M : zM} {p n m len : Nat} {wr : Int32} {th pe : zF1} (h : RS M0 M p wr n m th pe) (hl : M0.1 138 10 = nI len) (h120 : len ≤ 120) (hp : p ≤ len) : zCi l w yX8_here cX8_here 1 (some .int) 0 [.ref (w.2.2 138)] M (fun r M2 => RS M0 M2 (nxP (M0.1 142) (len - p) p) wr n m th pe ∧ r = chF (M0.1 142) len (nxP (M0.1 142) (len - p) p)) := by
  refine zCi_post (fun v M2 q => ?_) (c_X8_here J (by decide) rfl (h.len hl) h120 h.2.1 hp)
  obtain ⟨rfl, rfl⟩ := q
  rw [show M.1 (138 + 4) = M0.1 142 from h.L]
  exact ⟨h.at _, rfl⟩
def hsP (L : zF1) (len : Nat) (wr : Int32) (p : Nat) (c : Int32) : Nat := if wr = 0 then rdP L len p c else p
abbrev hsB (L : zF1) (len : Nat) (wr : Int32) (p : Nat) (c : Int32) : Prop := wr = 0 ∧ rdB L len p c
theorem hsP_0 (L : zF1) (len p : Nat) (c : Int32) : hsP L len 0 p c = rdP L len p c := if_pos rfl
theorem hsP_1 (L : zF1) (len p : Nat) (c : Int32) : hsP L len 1 p c = p := if_neg (by decide)
theorem p_has {l : Launch} {w : zE} (J : zJ w) {M0 M : zM} {p n m len : Nat} {wr c : Int32} {th pe : zF1} (h : RS M0 M p wr n m th pe) (hl : M0.1 138 10 = nI len) (h120 : len ≤ 120) (hp : p ≤ len) (h01 : wr = 0 ∨ wr = 1) : zCi l w yX8_has cX8_has 3 (some .boolean) 1 [.ref (w.2.2 138), .int c] M (fun r M2 => RS M0 M2 (hsP (M0.1 142) len wr p c) wr n m th pe ∧ r = bI (hsB (M0.1 142) len wr p c)) := by
  have hk : zk 138 = 8 := by decide
  have h12 := h.2.2.1
  rcases h01 with rfl | rfl
  · refine zCi_of J zm_X8_has [some (.ref (w.2.2 138)), some (.int c), none] (Nat.le_of_ble_eq_true rfl) rfl (fun g hg F X => ?_)
    subst hg
    rw [hsP_0] at X
    refine z_aload_n F dX8_has_0 rfl ?_
    refine zg_X8_wrong F (by with_reducible assumption) fl_X8_127 dX8_has_1 ?_
    try simp only [h12]
    refine z_if_ne (tgt := 19) F dX8_has_4 (by decide) (fun h_4 => absurd h_4 (by decide)) (fun h_4 => ?_)
    refine z_aload_n F dX8_has_7 rfl ?_
    refine z_callVi F (p_here J h hl h120 hp) zm_X8_here zv_X8_here ml_X8_131 (by with_reducible assumption) (by decide) rfl rfl rfl (Nat.le_of_ble_eq_true rfl) dX8_has_8 (by omega) (fun r_8 M_8 h_8 => ?_)
    obtain ⟨R_8, e_8⟩ := h_8
    subst e_8
    refine z_iload_n F dX8_has_11 rfl ?_
    refine z_ic_ne (tgt := 19) F dX8_has_12 (by decide) (fun h_12 => ?_) (fun h_12 => ?_)
    · try simp only [h12] at h_12
      refine z_iconst (v := 0) F dX8_has_19 (by decide) ?_
      refine z_istore_n (lv' := [_, _, _]) F dX8_has_20 (by decide) rfl rfl ?_
      refine z_aload_n F dX8_has_21 rfl ?_
      refine z_dup F dX8_has_22 rfl ?_
      refine zg_X8_at F (by with_reducible assumption) fl_X8_124 dX8_has_23 ?_
      simp only [R_8.2.1]
      refine z_iload_n F dX8_has_26 rfl ?_
      refine z_if_eq (tgt := 34) F dX8_has_27 (by decide) (fun h_27 => ?_) (fun h_27 => absurd h_27 (by decide))
      refine z_iconst (v := 0) F dX8_has_34 (by decide) ?_
      refine z_iadd F dX8_has_35 ?_
      refine zp_X8_at F (by with_reducible assumption) fl_X8_124 dX8_has_36 ?_
      refine z_iload_n F dX8_has_39 rfl ?_
      refine z_zret F X dX8_has_40 (by decide) ?_
      refine ⟨?_, bI_f (fun z => h_12 z.2)⟩
      rw [rdP, if_neg h_12, Int32.add_zero]
      exact R_8.at _
    · try simp only [h12] at h_12
      refine z_iconst (v := 1) F dX8_has_15 (by decide) ?_
      refine z_goto (tgt := 20) F dX8_has_16 (by decide) ?_
      refine z_istore_n (lv' := [_, _, _]) F dX8_has_20 (by decide) rfl rfl ?_
      refine z_aload_n F dX8_has_21 rfl ?_
      refine z_dup F dX8_has_22 rfl ?_
      refine zg_X8_at F (by with_reducible assumption) fl_X8_124 dX8_has_23 ?_
      simp only [R_8.2.1]
      refine z_iload_n F dX8_has_26 rfl ?_
      refine z_if_eq (tgt := 34) F dX8_has_27 (by decide) (fun h_27 => absurd h_27 (by decide)) (fun h_27 => ?_)
      refine z_iconst (v := 1) F dX8_has_30 (by decide) ?_
      refine z_goto (tgt := 35) F dX8_has_31 (by decide) ?_
      refine z_iadd F dX8_has_35 ?_
      refine zp_X8_at F (by with_reducible assumption) fl_X8_124 dX8_has_36 ?_
      refine z_iload_n F dX8_has_39 rfl ?_
      refine z_zret F X dX8_has_40 (by decide) ?_
      refine ⟨?_, bI_t ⟨rfl, h_12⟩⟩
      rw [rdP, if_pos h_12, nI_1]
      exact R_8.at _
  · refine zCi_of J zm_X8_has [some (.ref (w.2.2 138)), some (.int c), none] (Nat.le_of_ble_eq_true rfl) rfl (fun g hg F X => ?_)
    subst hg
    rw [hsP_1] at X
    refine z_aload_n F dX8_has_0 rfl ?_
    refine zg_X8_wrong F (by with_reducible assumption) fl_X8_127 dX8_has_1 ?_
    try simp only [h12]
    refine z_if_ne (tgt := 19) F dX8_has_4 (by decide) (fun h_4 => ?_) (fun h_4 => absurd h_4 (by decide))
    refine z_iconst (v := 0) F dX8_has_19 (by decide) ?_
    refine z_istore_n (lv' := [_, _, _]) F dX8_has_20 (by decide) rfl rfl ?_
    refine z_aload_n F dX8_has_21 rfl ?_
    refine z_dup F dX8_has_22 rfl ?_
    refine zg_X8_at F (by with_reducible assumption) fl_X8_124 dX8_has_23 ?_
    simp only [h.2.1]
    refine z_iload_n F dX8_has_26 rfl ?_
    refine z_if_eq (tgt := 34) F dX8_has_27 (by decide) (fun h_27 => ?_) (fun h_27 => absurd h_27 (by decide))
    refine z_iconst (v := 0) F dX8_has_34 (by decide) ?_
    refine z_iadd F dX8_has_35 ?_
    refine zp_X8_at F (by with_reducible assumption) fl_X8_124 dX8_has_36 ?_
    refine z_iload_n F dX8_has_39 rfl ?_
    refine z_zret F X dX8_has_40 (by decide) ?_
    refine ⟨?_, bI_f (fun z => absurd z.1 (by decide))⟩
    rw [Int32.add_zero]
    exact h.at _
/-- the reference's way to read a number -/
def nmR (L : zF1) : Nat → Nat → Int32 → Int32 × Nat
  | 0, p, v => (v, p)
  | j + 1, p, v => if dgF (L p) then nmR L j (p + 1) (if 9999 < v then v else 10 * v + L p - 48) else (v, p)
abbrev nmQ (h a b : Nat) : Prop := a < 100000 ∧ ((b = a ∧ a ≤ h) ∨ (b = h + 1 ∧ h < a))
theorem dg_n {c : Int32} (h : dgF c) : ∃ d, d < 10 ∧ c = nI (48 + d) := by
  obtain ⟨j, hj, rfl⟩ := nI_of2 (M := 57) (n := 57) (x := c) (by decide) (fun z => by have := h.1; grind) h.2
  have := (nI_leI (a := 48) (b := j) (by decide) (by omega)).mp h.1
  exact ⟨j - 48, by omega, by rw [show 48 + (j - 48) = j by omega]⟩
theorem nm_rel {L : zF1} {h : Nat} (hh : h ≤ 99) : ∀ (j p a b : Nat), nmQ h a b → ∃ a' b' q, nmR L j p (nI a) = (nI a', q) ∧ nmP L (nI h) j p (nI b) = (nI b', q) ∧ nmQ h a' b' := by
  intro j
  induction j with
  | zero => intro p a b hq; exact ⟨a, b, p, rfl, rfl, hq⟩
  | succ j ih =>
    intro p a b hq
    rw [nmR, nmP]
    by_cases hd : dgF (L p)
    · rw [if_pos hd, if_pos hd]
      obtain ⟨d, hd10, e⟩ := dg_n hd
      rw [e]
      have e1 : (10 : Int32) * nI a + nI (48 + d) - 48 = nI (10 * a + d) := by
        rw [show (10 : Int32) * nI a = nI (10 * a) from pk_mul 10 a, nI_add, show (48 : Int32) = nI 48 from rfl, pk_sub (by omega), show 10 * a + (48 + d) - 48 = 10 * a + d by omega]
      have e2 : nI b * 10 + nI (48 + d) - 48 = nI (10 * b + d) := by
        rw [show nI b * (10 : Int32) = nI (b * 10) from pk_mul b 10, nI_add, show (48 : Int32) = nI 48 from rfl, pk_sub (by omega), show b * 10 + (48 + d) - 48 = 10 * b + d by omega]
      rw [e1, e2, nI_1]
      have q1 : (if (9999 : Int32) < nI a then nI a else nI (10 * a + d)) = nI (if 9999 < a then a else 10 * a + d) := by
        by_cases z : 9999 < a
        · rw [if_pos z, if_pos (show (9999 : Int32) < nI a from nI_lt (a := 9999) z (by omega))]
        · rw [if_neg z, if_neg (show ¬ (9999 : Int32) < nI a from fun z2 => z ((nI_ltI (a := 9999) (by decide) (by omega)).mp z2))]
      have q2 : (if nI (h + 1) < nI (10 * b + d) then nI (h + 1) else nI (10 * b + d)) = nI (if h + 1 < 10 * b + d then h + 1 else 10 * b + d) := by
        by_cases z : h + 1 < 10 * b + d
        · rw [if_pos z, if_pos (nI_lt z (by omega))]
        · rw [if_neg z, if_neg (fun z2 => z ((nI_ltI (by omega) (by omega)).mp z2))]
      rw [q1, q2]
      refine ih (p + 1) _ _ ?_
      obtain ⟨g1, g2⟩ := hq
      split <;> split <;> refine ⟨by omega, ?_⟩ <;> omega
    · rw [if_neg hd, if_neg hd]
      exact ⟨a, b, p, rfl, rfl, hq⟩
theorem p_number {l : Launch} {w : zE} (J : zJ w) {M0 M : zM} {p n m len h0 : Nat} {wr hi : Int32} {th pe : zF1} (h : RS M0 M p wr n m th pe) (hl : M0.1 138 10 = nI len) (h120 : len ≤ 120) (hp : p ≤ len) (h01 : wr = 0 ∨ wr = 1) (hhi : hi = nI h0) (hh : h0 ≤ 99) : zCi l w yX8_number cX8_number 4 (some .int) 1 [.ref (w.2.2 138), .int hi] M (fun r M2 => (wr = 1 ∧ RS M0 M2 p 1 n m th pe) ∨ (wr = 0 ∧ (numF (M0.1 142) len p hi).1 < 0 ∧ RS M0 M2 (numF (M0.1 142) len p hi).2 1 n m th pe) ∨ (wr = 0 ∧ ¬ (numF (M0.1 142) len p hi).1 < 0 ∧ RS M0 M2 (numF (M0.1 142) len p hi).2 0 n m th pe ∧ r = (numF (M0.1 142) len p hi).1)) := by
  have hk : zk 138 = 8 := by decide
  obtain ⟨hz1, hz2, hz3, hz4, hz5, hz6, hz7, hz8, hz9, hz10, hz11, hz12, hz13, hz14, hz15⟩ := zn8 (show 138 = 138 from rfl)
  have h12 := h.2.2.1
  subst hhi
  rcases h01 with rfl | rfl
  · refine zCi_of J zm_X8_number [some (.ref (w.2.2 138)), some (.int (nI h0)), none, none] (Nat.le_of_ble_eq_true rfl) rfl (fun g hg F X => ?_)
    subst hg
    have hqle := nxP_le (M0.1 142) (len - p) p
    generalize hL : M0.1 142 = L at X hqle
    generalize hq : nxP L (len - p) p = q0 at hqle
    have key : dgF (chF L len q0) → ∀ (j q : Nat) (v : Int32) (M' : zM), q + j = len → RS M0 M' q 0 n m th pe → nmR L j q v = nmR L (len - q0) q0 0 → ZW w g 4 38 [some (.ref (w.2.2 138)), some (.int (nI h0)), some (.int (nI q0)), some (.int v)] [] M' := by
      intro hdg
      obtain ⟨a', b', qe, n1, n2, n3, n4⟩ := nm_rel (L := L) hh (len - q0) q0 0 0 ⟨by decide, Or.inl ⟨rfl, by omega⟩⟩
      rw [show nI 0 = (0 : Int32) from rfl] at n1 n2
      have hfin : numF L len p (nI h0) = if nI h0 < nI b' then (-1, q0) else (nI b', qe) := by
        unfold numF
        rw [hq, if_pos hdg, n2]
      have fin : ∀ (v : Int32) (q : Nat) (M' : zM), (v, q) = nmR L (len - q0) q0 0 → RS M0 M' q 0 n m th pe → ZW w g 4 113 [some (.ref (w.2.2 138)), some (.int (nI h0)), some (.int (nI q0)), some (.int v)] [] M' := by
        intro v q M' hv R
        rw [n1] at hv
        obtain ⟨rfl, rfl⟩ := Prod.mk.inj hv
        refine z_aload_n F dX8_number_113 rfl ?_
        refine z_iload_n F dX8_number_114 rfl ?_
        refine z_iload_n F dX8_number_115 rfl ?_
        refine z_ic_le (tgt := 123) F dX8_number_116 (by decide) (fun h_116 => ?_) (fun h_116 => ?_)
        · refine z_iconst (v := 0) F dX8_number_123 (by decide) ?_
          refine zp_X8_wrong F (by with_reducible assumption) fl_X8_127 (by decide) (by decide) dX8_number_124 ?_
          refine z_aload_n F dX8_number_127 rfl ?_
          refine z_aload_n F dX8_number_128 rfl ?_
          refine zg_X8_wrong F (by with_reducible assumption) fl_X8_127 dX8_number_129 ?_
          try simp +decide only [zs_g, if_true, if_false, R.2.1]
          refine z_if_eq (tgt := 139) F dX8_number_132 (by decide) (fun h_132 => ?_) (fun h_132 => absurd h_132 (by decide))
          refine z_aload_n F dX8_number_139 rfl ?_
          refine zg_X8_at F (by with_reducible assumption) fl_X8_124 dX8_number_140 ?_
          try simp +decide only [zs_g, if_true, if_false, R.2.1]
          refine zp_X8_at F (by with_reducible assumption) fl_X8_124 dX8_number_143 ?_
          refine z_iload_n F dX8_number_146 rfl ?_
          refine z_iret F X dX8_number_147 ?_
          refine Or.inr (Or.inr ?_)
          have z := (nI_leI (by omega) (by omega)).mp h_116
          have e : nI h0 < nI b' ↔ False := ⟨fun y => by have := (nI_ltI (by omega) (by omega)).mp y; omega, False.elim⟩
          rw [hfin, if_neg e.mp]
          refine ⟨rfl, nI_pos (by omega), (R.wr 0).at _, ?_⟩
          rw [show a' = b' by omega]
        · refine z_iconst (v := 1) F dX8_number_119 (by decide) ?_
          refine z_goto (tgt := 124) F dX8_number_120 (by decide) ?_
          refine zp_X8_wrong F (by with_reducible assumption) fl_X8_127 (by decide) (by decide) dX8_number_124 ?_
          refine z_aload_n F dX8_number_127 rfl ?_
          refine z_aload_n F dX8_number_128 rfl ?_
          refine zg_X8_wrong F (by with_reducible assumption) fl_X8_127 dX8_number_129 ?_
          try simp +decide only [zs_g, if_true, if_false, R.2.1]
          refine z_if_eq (tgt := 139) F dX8_number_132 (by decide) (fun h_132 => absurd h_132 (by decide)) (fun h_132 => ?_)
          refine z_iload_n F dX8_number_135 rfl ?_
          refine z_goto (tgt := 143) F dX8_number_136 (by decide) ?_
          refine zp_X8_at F (by with_reducible assumption) fl_X8_124 dX8_number_143 ?_
          refine z_iload_n F dX8_number_146 rfl ?_
          refine z_iret F X dX8_number_147 ?_
          refine Or.inr (Or.inl ?_)
          have z := (nI_ltI (by omega) (by omega)).mp h_116
          rw [hfin, if_pos (nI_lt (by omega) (by omega))]
          exact ⟨rfl, (by decide : (-1 : Int32) < 0), (R.wr 1).at _⟩
      intro j
      induction j with
      | zero =>
        intro q v M' hqj R hs
        obtain rfl : q = len := by omega
        have c10 := R.len hl
        refine z_aload_n F dX8_number_38 rfl ?_
        refine zg_X8_at F (by with_reducible assumption) fl_X8_124 dX8_number_39 ?_
        try simp only [c10, R.2.1]
        refine z_aload_n F dX8_number_42 rfl ?_
        refine zg_X8_taped F (by with_reducible assumption) fl_X8_121 dX8_number_43 ?_
        try simp only [c10, R.2.1]
        refine z_ic_ge (tgt := 113) F dX8_number_46 (by decide) (fun h_46 => ?_) (fun h_46 => absurd h_46 (Int32.not_lt.mpr (Int32.le_refl _)))
        exact fin v q M' hs R
      | succ j ih =>
        intro q v M' hqj R hs
        have c10 := R.len hl
        have cL := R.L.trans hL
        rw [nmR] at hs
        refine z_aload_n F dX8_number_38 rfl ?_
        refine zg_X8_at F (by with_reducible assumption) fl_X8_124 dX8_number_39 ?_
        try simp only [c10, R.2.1, show M'.1 (138 + 4) = L from cL]
        refine z_aload_n F dX8_number_42 rfl ?_
        refine zg_X8_taped F (by with_reducible assumption) fl_X8_121 dX8_number_43 ?_
        try simp only [c10, R.2.1, show M'.1 (138 + 4) = L from cL]
        refine z_ic_ge (tgt := 113) F dX8_number_46 (by decide) (fun h_46 => absurd h_46 (Int32.not_le.mpr (nI_lt (by omega) (by omega)))) (fun h_46 => ?_)
        refine z_aload_n F dX8_number_49 rfl ?_
        refine zg_X8_tape F (by with_reducible assumption) fl_X8_19 dX8_number_50 (fun hk_50 => ?_)
        refine z_aload_n F dX8_number_53 rfl ?_
        refine zg_X8_at F (by with_reducible assumption) fl_X8_124 dX8_number_54 ?_
        try simp only [c10, R.2.1, show M'.1 (138 + 4) = L from cL]
        refine z_iald10n (q := q) F (by with_reducible assumption) (by first | with_reducible rfl | (simp only [n4, n2, n3, n5, n14, n16, na1, na2, na3, nI_add, nI_1, nI_pred]; done) | (simp only [n4, n2, n3, n5, n14, n16, na1, na2, na3, nI_add, nI_1, nI_pred, Nat.add_assoc, Nat.add_comm, Nat.add_left_comm]; done)) (by rw [hz4]; omega) dX8_number_57 ?_
        try simp only [c10, R.2.1, show M'.1 (138 + 4) = L from cL]
        refine z_i2l F dX8_number_58 ?_
        refine z_ldc2 F dX8_number_59 cl_X8_135 ?_
        refine z_ldc2 F dX8_number_62 cl_X8_137 ?_
        refine z_callSi F (d_X8_in J (a := 48) (b := 57) (by decide) (by decide)) zm_X8_in zst_X8_in ml_X8_72 rfl rfl (Nat.le_of_ble_eq_true rfl) dX8_number_65 (by omega) (fun r_65 M_65 h_65 => ?_)
        obtain ⟨e_65, rfl⟩ := h_65
        replace e_65 := Eq.symm e_65
        subst e_65
        refine z_if_eq (tgt := 113) F dX8_number_68 (by decide) (fun h_68 => ?_) (fun h_68 => ?_)
        · replace h_68 := bI_0.mp h_68
          try simp only [c10, R.2.1, show M'.1 (138 + 4) = L from cL] at h_68
          rw [if_neg h_68] at hs
          exact fin v q M' hs R
        · replace h_68 := bI_1.mp h_68
          try simp only [c10, R.2.1, show M'.1 (138 + 4) = L from cL] at h_68
          refine z_iload_n F dX8_number_71 rfl ?_
          refine z_sipush (v := 9999) F dX8_number_72 (by decide) ?_
          refine z_ic_le (tgt := 82) F dX8_number_75 (by decide) (fun h_75 => ?_) (fun h_75 => ?_)
          · try simp only [c10, R.2.1, show M'.1 (138 + 4) = L from cL] at h_75
            refine z_bipush (v := 10) F dX8_number_82 (by decide) ?_
            refine z_iload_n F dX8_number_84 rfl ?_
            refine z_imul F dX8_number_85 ?_
            refine z_aload_n F dX8_number_86 rfl ?_
            refine zg_X8_tape F (by with_reducible assumption) fl_X8_19 dX8_number_87 (fun hk_87 => ?_)
            refine z_aload_n F dX8_number_90 rfl ?_
            refine zg_X8_at F (by with_reducible assumption) fl_X8_124 dX8_number_91 ?_
            try simp only [c10, R.2.1, show M'.1 (138 + 4) = L from cL]
            refine z_iald10n (q := q) F (by with_reducible assumption) (by first | with_reducible rfl | (simp only [n4, n2, n3, n5, n14, n16, na1, na2, na3, nI_add, nI_1, nI_pred]; done) | (simp only [n4, n2, n3, n5, n14, n16, na1, na2, na3, nI_add, nI_1, nI_pred, Nat.add_assoc, Nat.add_comm, Nat.add_left_comm]; done)) (by rw [hz4]; omega) dX8_number_94 ?_
            try simp only [c10, R.2.1, show M'.1 (138 + 4) = L from cL]
            refine z_iadd F dX8_number_95 ?_
            refine z_bipush (v := 48) F dX8_number_96 (by decide) ?_
            refine z_isub F dX8_number_98 ?_
            refine z_istore_n (lv' := [_, _, _, _]) F dX8_number_99 (by decide) rfl rfl ?_
            refine z_aload_n F dX8_number_100 rfl ?_
            refine z_dup F dX8_number_101 rfl ?_
            refine zg_X8_at F (by with_reducible assumption) fl_X8_124 dX8_number_102 ?_
            try simp only [c10, R.2.1, show M'.1 (138 + 4) = L from cL]
            refine z_iconst (v := 1) F dX8_number_105 (by decide) ?_
            refine z_iadd F dX8_number_106 ?_
            refine zp_X8_at F (by with_reducible assumption) fl_X8_124 dX8_number_107 ?_
            refine z_goto (tgt := 38) F dX8_number_110 (by decide) ?_
            rw [if_pos h_68, if_neg (nlt h_75)] at hs
            rw [nI_1]
            exact ih (q + 1) _ _ (by omega) (R.at _) hs
          · try simp only [c10, R.2.1, show M'.1 (138 + 4) = L from cL] at h_75
            refine z_iload_n F dX8_number_78 rfl ?_
            refine z_goto (tgt := 99) F dX8_number_79 (by decide) ?_
            refine z_istore_n (lv' := [_, _, _, _]) F dX8_number_99 (by decide) rfl rfl ?_
            refine z_aload_n F dX8_number_100 rfl ?_
            refine z_dup F dX8_number_101 rfl ?_
            refine zg_X8_at F (by with_reducible assumption) fl_X8_124 dX8_number_102 ?_
            try simp only [c10, R.2.1, show M'.1 (138 + 4) = L from cL]
            refine z_iconst (v := 1) F dX8_number_105 (by decide) ?_
            refine z_iadd F dX8_number_106 ?_
            refine zp_X8_at F (by with_reducible assumption) fl_X8_124 dX8_number_107 ?_
            refine z_goto (tgt := 38) F dX8_number_110 (by decide) ?_
            rw [if_pos h_68, if_pos h_75] at hs
            rw [nI_1]
            exact ih (q + 1) _ _ (by omega) (R.at _) hs
    refine z_aload_n F dX8_number_0 rfl ?_
    refine zg_X8_wrong F (by with_reducible assumption) fl_X8_127 dX8_number_1 ?_
    try simp only [h12]
    refine z_if_ne (tgt := 24) F dX8_number_4 (by decide) (fun h_4 => absurd h_4 (by decide)) (fun h_4 => ?_)
    refine z_aload_n F dX8_number_7 rfl ?_
    refine z_callVi F (p_here J h hl h120 hp) zm_X8_here zv_X8_here ml_X8_131 (by with_reducible assumption) (by decide) rfl rfl rfl (Nat.le_of_ble_eq_true rfl) dX8_number_8 (by omega) (fun r_8 M_8 h_8 => ?_)
    obtain ⟨R_8, e_8⟩ := h_8
    rw [hL, hq] at R_8 e_8
    subst e_8
    refine z_i2l F dX8_number_11 ?_
    refine z_ldc2 F dX8_number_12 cl_X8_135 ?_
    refine z_ldc2 F dX8_number_15 cl_X8_137 ?_
    refine z_callSi F (d_X8_in J (a := 48) (b := 57) (by decide) (by decide)) zm_X8_in zst_X8_in ml_X8_72 rfl rfl (Nat.le_of_ble_eq_true rfl) dX8_number_18 (by omega) (fun r_18 M_18 h_18 => ?_)
    obtain ⟨e_18, rfl⟩ := h_18
    replace e_18 := Eq.symm e_18
    subst e_18
    refine z_if_ne (tgt := 31) F dX8_number_21 (by decide) (fun h_21 => ?_) (fun h_21 => ?_)
    · replace h_21 := bI_1.mp h_21
      try simp only [h12] at h_21
      refine z_aload_n F dX8_number_31 rfl ?_
      refine zg_X8_at F (by with_reducible assumption) fl_X8_124 dX8_number_32 ?_
      simp only [R_8.2.1]
      refine z_istore_n (lv' := [_, _, _, _]) F dX8_number_35 (by decide) rfl rfl ?_
      refine z_iconst (v := 0) F dX8_number_36 (by decide) ?_
      refine z_istore_n (lv' := [_, _, _, _]) F dX8_number_37 (by decide) rfl rfl ?_
      exact key h_21 (len - q0) q0 0 _ (by omega) R_8 rfl
    · replace h_21 := bI_0.mp h_21
      try simp only [h12] at h_21
      refine z_aload_n F dX8_number_24 rfl ?_
      refine z_iconst (v := 1) F dX8_number_25 (by decide) ?_
      refine zp_X8_wrong F (by with_reducible assumption) fl_X8_127 (by decide) (by decide) dX8_number_26 ?_
      refine z_iconst (v := 0) F dX8_number_29 (by decide) ?_
      refine z_iret F X dX8_number_30 ?_
      have e : numF L len p (nI h0) = (-1, q0) := by unfold numF; rw [hq, if_neg h_21]
      rw [e]
      exact Or.inr (Or.inl ⟨rfl, (by decide : (-1 : Int32) < 0), R_8.wr 1⟩)
  · refine zCi_post (fun v M2 q => ?_) (c_X8_number0 J h12)
    obtain ⟨rfl, rfl⟩ := q
    exact Or.inl ⟨rfl, h.wr 1⟩
