/-! a thing, a person, what is had, as the reference reads them -/
def nuW (L : zF1) (len : Nat) (wr : Int32) (p : Nat) (hi : Int32) : Int32 := if wr = 0 ∧ ¬ (numF L len p hi).1 < 0 then 0 else 1
def nuP (L : zF1) (len : Nat) (wr : Int32) (p : Nat) (hi : Int32) : Nat := if wr = 0 then (numF L len p hi).2 else p
def opW (L : zF1) (len : Nat) (wr : Int32) (p : Nat) (c hi : Int32) : Int32 := if hsB L len wr p c then nuW L len wr (hsP L len wr p c) hi else wr
def opP (L : zF1) (len : Nat) (wr : Int32) (p : Nat) (c hi : Int32) : Nat := if hsB L len wr p c then nuP L len wr (hsP L len wr p c) hi else hsP L len wr p c
theorem nuW_01 (L : zF1) (len : Nat) (wr : Int32) (p : Nat) (hi : Int32) : nuW L len wr p hi = 0 ∨ nuW L len wr p hi = 1 := by unfold nuW; split <;> simp
theorem nuP_le {L : zF1} {len : Nat} {wr : Int32} {p : Nat} {hi : Int32} (h : p ≤ len) : nuP L len wr p hi ≤ len := by unfold nuP; split; exact numF_le h; exact h
theorem hsP_le {L : zF1} {len : Nat} {wr : Int32} {p : Nat} {c : Int32} (h : p ≤ len) (hc : ¬ c = 0) : hsP L len wr p c ≤ len := by unfold hsP; split; exact rdP_le h hc; exact h
theorem opP_le {L : zF1} {len : Nat} {wr : Int32} {p : Nat} {c hi : Int32} (h : p ≤ len) (hc : ¬ c = 0) : opP L len wr p c hi ≤ len := by unfold opP; split; exact nuP_le (hsP_le h hc); exact hsP_le h hc
theorem opW_01 (L : zF1) (len : Nat) {wr : Int32} (p : Nat) (c hi : Int32) (h : wr = 0 ∨ wr = 1) : opW L len wr p c hi = 0 ∨ opW L len wr p c hi = 1 := by unfold opW; split; exact nuW_01 _ _ _ _ _; exact h
theorem nuW_1 (L : zF1) (len p : Nat) (hi : Int32) : nuW L len 1 p hi = 1 := if_neg (fun z => absurd z.1 (by decide))
theorem nuP_1 (L : zF1) (len p : Nat) (hi : Int32) : nuP L len 1 p hi = p := if_neg (by decide)
theorem nuW_f {L : zF1} {len p : Nat} {hi : Int32} (h : (numF L len p hi).1 < 0) : nuW L len 0 p hi = 1 := if_neg (fun z => z.2 h)
theorem nuW_t {L : zF1} {len p : Nat} {hi : Int32} (h : ¬ (numF L len p hi).1 < 0) : nuW L len 0 p hi = 0 := if_pos ⟨rfl, h⟩
theorem nuP_0 (L : zF1) (len p : Nat) (hi : Int32) : nuP L len 0 p hi = (numF L len p hi).2 := if_pos rfl
theorem opW_1 (L : zF1) (len p : Nat) (c hi : Int32) : opW L len 1 p c hi = 1 := if_neg (fun z => absurd z.1 (by decide))
theorem opP_1 (L : zF1) (len p : Nat) (c hi : Int32) : opP L len 1 p c hi = p := by unfold opP; rw [if_neg (fun z => absurd z.1 (by decide)), hsP_1]
theorem opP_0 (L : zF1) (len p : Nat) (c hi : Int32) : opP L len 0 p c hi = (optF L len p c hi).2 := by
  unfold opP optF
  by_cases h : rdB L len p c
  · rw [if_pos ⟨rfl, h⟩, if_pos h, hsP_0, nuP_0]
  · rw [if_neg (fun z => h z.2), if_neg h, hsP_0]
theorem opW_f {L : zF1} {len p : Nat} {c hi : Int32} (q : (optF L len p c hi).1 < 0) : opW L len 0 p c hi = 1 := by
  unfold opW
  unfold optF at q
  by_cases h : rdB L len p c
  · rw [if_pos h] at q
    rw [if_pos ⟨rfl, h⟩, hsP_0, nuW_f q]
  · rw [if_neg h] at q
    exact absurd q (by show ¬ (0 : Int32) < 0; decide)
theorem opW_t {L : zF1} {len p : Nat} {c hi : Int32} (q : ¬ (optF L len p c hi).1 < 0) : opW L len 0 p c hi = 0 := by
  unfold opW
  unfold optF at q
  by_cases h : rdB L len p c
  · rw [if_pos h] at q
    rw [if_pos ⟨rfl, h⟩, hsP_0, nuW_t q]
  · rw [if_neg (fun z => h z.2)]
theorem p_numW {l : Launch} {w : zE} (J : zJ w) {M0 M : zM} {p n m len h0 : Nat} {wr hi : Int32} {th pe : zF1} (h : RS M0 M p wr n m th pe) (hl : M0.1 138 10 = nI len) (h120 : len ≤ 120) (hp : p ≤ len) (h01 : wr = 0 ∨ wr = 1) (hhi : hi = nI h0) (hh : h0 ≤ 99) : zCi l w yX8_number cX8_number 4 (some .int) 1 [.ref (w.2.2 138), .int hi] M (fun r M2 => RS M0 M2 (nuP (M0.1 142) len wr p hi) (nuW (M0.1 142) len wr p hi) n m th pe ∧ (nuW (M0.1 142) len wr p hi = 0 → r = (numF (M0.1 142) len p hi).1)) := by
  refine zCi_post (fun v M2 q => ?_) (p_number J h hl h120 hp h01 hhi hh)
  rcases q with ⟨rfl, R⟩ | ⟨rfl, z, R⟩ | ⟨rfl, z, R, e⟩
  · rw [nuW_1, nuP_1]; exact ⟨R, fun z => absurd z (by decide)⟩
  · rw [nuW_f z, nuP_0]; exact ⟨R, fun z => absurd z (by decide)⟩
  · rw [nuW_t z, nuP_0]; exact ⟨R, fun _ => e⟩
theorem thi_end {L : zF1} {len p q1 : Nat} {wr kd : Int32} (h : wr = 1 ∧ (thiF L len p).1 = 0 ∧ (thiF L len p).2.1 = q1 ∨ wr = 0 ∧ kd = kndF (chF L len (nxP L (len - p) p)) ∧ ¬ kd < 0 ∧ q1 = nxP L (len - p) p + 1) :
    ((thiF L len p).1 = 0 ∧ opW L len (opW L len (nuW L len wr q1 99) (nuP L len wr q1 99) 108 30) (opP L len (nuW L len wr q1 99) (nuP L len wr q1 99) 108 30) 99 30 = 1 ∧ opP L len (opW L len (nuW L len wr q1 99) (nuP L len wr q1 99) 108 30) (opP L len (nuW L len wr q1 99) (nuP L len wr q1 99) 108 30) 99 30 = (thiF L len p).2.1)
    ∨ (¬ (thiF L len p).1 = 0 ∧ nuW L len wr q1 99 = 0 ∧ opW L len (nuW L len wr q1 99) (nuP L len wr q1 99) 108 30 = 0 ∧ opW L len (opW L len (nuW L len wr q1 99) (nuP L len wr q1 99) 108 30) (opP L len (nuW L len wr q1 99) (nuP L len wr q1 99) 108 30) 99 30 = 0 ∧ opP L len (opW L len (nuW L len wr q1 99) (nuP L len wr q1 99) 108 30) (opP L len (nuW L len wr q1 99) (nuP L len wr q1 99) 108 30) 99 30 = (thiF L len p).2.1
      ∧ (thiF L len p).2.2 = (kd, (numF L len q1 99).1, (optF L len (nuP L len wr q1 99) 108 30).1, (optF L len (opP L len (nuW L len wr q1 99) (nuP L len wr q1 99) 108 30) 99 30).1)) := by
  rcases h with ⟨rfl, h1, h2⟩ | ⟨rfl, hkd, hk, hq⟩
  · rw [nuW_1, nuP_1, opW_1, opP_1, opW_1, opP_1]
    exact Or.inl ⟨h1, rfl, h2.symm⟩
  · unfold thiF
    rw [← hkd, ← hq, if_neg hk, nuP_0]
    by_cases z1 : (numF L len q1 99).1 < 0
    · rw [if_pos z1, nuW_f z1, opW_1, opP_1, opW_1, opP_1]
      exact Or.inl ⟨rfl, rfl, rfl⟩
    · rw [if_neg z1, nuW_t z1, opP_0]
      by_cases z2 : (optF L len (numF L len q1 99).2 108 30).1 < 0
      · rw [if_pos z2, opW_f z2, opW_1, opP_1]
        exact Or.inl ⟨rfl, rfl, rfl⟩
      · rw [if_neg z2, opW_t z2, opP_0]
        by_cases z3 : (optF L len (optF L len (numF L len q1 99).2 108 30).2 99 30).1 < 0
        · rw [if_pos z3, opW_f z3]
          exact Or.inl ⟨rfl, rfl, rfl⟩
        · rw [if_neg z3, opW_t z3]
          exact Or.inr ⟨by show ¬ (1 : Int32) = 0; decide, rfl, rfl, rfl, rfl, rfl⟩
theorem knd_m {c : Int32} : kndF c < 0 ↔ ¬ c = 112 ∧ ¬ c = 98 ∧ ¬ c = 117 ∧ ¬ c = 109 := by
  unfold kndF
  by_cases h1 : c = 112
  · rw [if_pos h1]; exact ⟨fun z => absurd z (by decide), fun z => absurd h1 z.1⟩
  rw [if_neg h1]
  by_cases h2 : c = 98
  · rw [if_pos h2]; exact ⟨fun z => absurd z (by decide), fun z => absurd h2 z.2.1⟩
  rw [if_neg h2]
  by_cases h3 : c = 117
  · rw [if_pos h3]; exact ⟨fun z => absurd z (by decide), fun z => absurd h3 z.2.2.1⟩
  rw [if_neg h3]
  by_cases h4 : c = 109
  · rw [if_pos h4]; exact ⟨fun z => absurd z (by decide), fun z => absurd h4 z.2.2.2⟩
  rw [if_neg h4]
  exact ⟨fun _ => ⟨h1, h2, h3, h4⟩, fun _ => by decide⟩
theorem p_readThing {l : Launch} {w : zE} (J : zJ w) {M0 M : zM} {p n m len : Nat} {th pe : zF1} (h : RS M0 M p 0 n m th pe) (hl : M0.1 138 10 = nI len) (h120 : len ≤ 120) (hp : p ≤ len) (hn : n < 10) : zCv l w yX8_readThing cX8_readThing 3 2 [.ref (w.2.2 138)] M (fun M2 => ((thiF (M0.1 142) len p).1 = 0 ∧ ∃ th', RS M0 M2 (thiF (M0.1 142) len p).2.1 1 (n + 1) m th' pe) ∨ (¬ (thiF (M0.1 142) len p).1 = 0 ∧ RS M0 M2 (thiF (M0.1 142) len p).2.1 0 (n + 1) m (setF th n (thiF (M0.1 142) len p).2.2.1 (thiF (M0.1 142) len p).2.2.2.1 (thiF (M0.1 142) len p).2.2.2.2.1 (thiF (M0.1 142) len p).2.2.2.2.2) pe)) := by
  have hk : zk 138 = 8 := by decide
  obtain ⟨hz1, hz2, hz3, hz4, hz5, hz6, hz7, hz8, hz9, hz10, hz11, hz12, hz13, hz14, hz15⟩ := zn8 (show 138 = 138 from rfl)
  refine zCv_of J zm_X8_readThing [some (.ref (w.2.2 138)), none, none] (Nat.le_of_ble_eq_true rfl) rfl (fun g hg F X => ?_)
  subst hg
  have hx := nxP_le (M0.1 142) (len - p) p
  have tail : ∀ (wr kd hv : Int32) (q1 : Nat) (M1 : zM), RS M0 M1 q1 wr n m (va_up th (4 * n) kd) pe → q1 ≤ len → (wr = 1 ∧ (thiF (M0.1 142) len p).1 = 0 ∧ (thiF (M0.1 142) len p).2.1 = q1 ∨ wr = 0 ∧ kd = kndF (chF (M0.1 142) len (nxP (M0.1 142) (len - p) p)) ∧ ¬ kd < 0 ∧ q1 = nxP (M0.1 142) (len - p) p + 1) → ZW w g 3 121 [some (.ref (w.2.2 138)), some (.int (nI (4 * n))), some (.int hv)] [] M1 := by
    intro wr kd hv q1 M1 R1 hq1 hyp
    have h01 : wr = 0 ∨ wr = 1 := hyp.elim (fun z => Or.inr z.1) (fun z => Or.inl z.1)
    have te := thi_end hyp
    generalize hW1 : nuW (M0.1 142) len wr q1 99 = W1 at te
    generalize hP1 : nuP (M0.1 142) len wr q1 99 = P1 at te
    have w1 : W1 = 0 ∨ W1 = 1 := hW1 ▸ nuW_01 _ _ _ _ _
    have l1 : P1 ≤ len := hP1 ▸ nuP_le hq1
    generalize hW2 : opW (M0.1 142) len W1 P1 108 30 = W2 at te
    generalize hP2 : opP (M0.1 142) len W1 P1 108 30 = P2 at te
    have w2 : W2 = 0 ∨ W2 = 1 := hW2 ▸ opW_01 _ _ _ _ _ w1
    have l2 : P2 ≤ len := hP2 ▸ opP_le l1 (by decide)
    refine z_aload_n F dX8_readThing_121 rfl ?_
    refine zg_X8_readThings F (by with_reducible assumption) fl_X8_22 dX8_readThing_122 (fun hk_122 => ?_)
    refine z_iload_n F dX8_readThing_125 rfl ?_
    refine z_iconst (v := 1) F dX8_readThing_126 (by decide) ?_
    refine z_iadd F dX8_readThing_127 ?_
    refine z_aload_n F dX8_readThing_128 rfl ?_
    refine z_bipush (v := 99) F dX8_readThing_129 (by decide) ?_
    refine z_callVi F (p_numW J (h0 := 99) (hi := 99) R1 hl h120 hq1 h01 rfl (by decide)) zm_X8_number zv_X8_number ml_X8_142 (by with_reducible assumption) (by decide) rfl rfl rfl (Nat.le_of_ble_eq_true rfl) dX8_readThing_131 (by omega) (fun r_131 M_131 h_131 => ?_)
    obtain ⟨R_131, e_131⟩ := h_131
    rw [hW1, hP1] at R_131
    rw [hW1] at e_131
    refine z_iast10n (q := ((4*n) + 1)) F (by with_reducible assumption) (by first | with_reducible rfl | (simp only [n4, n2, n3, n5, n14, n16, na1, na2, na3, nI_add, nI_1, nI_pred]; done) | (simp only [n4, n2, n3, n5, n14, n16, na1, na2, na3, nI_add, nI_1, nI_pred, Nat.add_assoc, Nat.add_comm, Nat.add_left_comm]; done)) (by rw [hz5]; omega) dX8_readThing_134 ?_
    refine z_aload_n F dX8_readThing_135 rfl ?_
    refine zg_X8_readThings F (by with_reducible assumption) fl_X8_22 dX8_readThing_136 (fun hk_136 => ?_)
    refine z_iload_n F dX8_readThing_139 rfl ?_
    refine z_iconst (v := 2) F dX8_readThing_140 (by decide) ?_
    refine z_iadd F dX8_readThing_141 ?_
    refine z_aload_n F dX8_readThing_142 rfl ?_
    refine z_bipush (v := 108) F dX8_readThing_143 (by decide) ?_
    refine z_callVi F (p_has J (R_131.th (4 * n + 1) r_131) hl h120 l1 w1) zm_X8_has zv_X8_has ml_X8_145 (by with_reducible assumption) (by decide) rfl rfl rfl (Nat.le_of_ble_eq_true rfl) dX8_readThing_145 (by omega) (fun r_145 M_145 h_145 => ?_)
    obtain ⟨R_145, e_145⟩ := h_145
    subst e_145
    refine z_if_eq (tgt := 160) F dX8_readThing_148 (by decide) (fun h_148 => ?_) (fun h_148 => ?_)
    · replace h_148 := bI_0.mp h_148
      refine z_iconst (v := 0) F dX8_readThing_160 (by decide) ?_
      refine z_iast10n (q := ((4*n) + 2)) F (by with_reducible assumption) (by first | with_reducible rfl | (simp only [n4, n2, n3, n5, n14, n16, na1, na2, na3, nI_add, nI_1, nI_pred]; done) | (simp only [n4, n2, n3, n5, n14, n16, na1, na2, na3, nI_add, nI_1, nI_pred, Nat.add_assoc, Nat.add_comm, Nat.add_left_comm]; done)) (by rw [hz5]; omega) dX8_readThing_161 ?_
      refine ZW_gen (fun M2 => ∃ v2, RS M0 M2 P2 W2 n m (va_up (va_up (va_up th (4 * n) kd) (4 * n + 1) r_131) (4 * n + 2) v2) pe ∧ (W2 = 0 → v2 = (optF (M0.1 142) len P1 108 30).1)) ?_ (fun M2 ⟨v2, R2, e2⟩ => ?_)
      · refine ⟨0, ?_, fun z => ?_⟩
        · rw [← hW2, ← hP2, opP, opW, if_neg h_148, if_neg h_148]
          exact R_145.th _ _
        · rw [optF, if_neg (fun y => h_148 ⟨?_, y⟩)]
          rw [← hW2, opW, if_neg h_148] at z
          exact z
      refine z_aload_n F dX8_readThing_162 rfl ?_
      refine zg_X8_readThings F (by with_reducible assumption) fl_X8_22 dX8_readThing_163 (fun hk_163 => ?_)
      refine z_iload_n F dX8_readThing_166 rfl ?_
      refine z_iconst (v := 3) F dX8_readThing_167 (by decide) ?_
      refine z_iadd F dX8_readThing_168 ?_
      refine z_aload_n F dX8_readThing_169 rfl ?_
      refine z_bipush (v := 99) F dX8_readThing_170 (by decide) ?_
      refine z_callVi F (p_has J R2 hl h120 l2 w2) zm_X8_has zv_X8_has ml_X8_145 (by with_reducible assumption) (by decide) rfl rfl rfl (Nat.le_of_ble_eq_true rfl) dX8_readThing_172 (by omega) (fun r_172 M_172 h_172 => ?_)
      obtain ⟨R_172, e_172⟩ := h_172
      subst e_172
      refine z_if_eq (tgt := 187) F dX8_readThing_175 (by decide) (fun h_175 => ?_) (fun h_175 => ?_)
      · replace h_175 := bI_0.mp h_175
        refine z_iconst (v := 0) F dX8_readThing_187 (by decide) ?_
        refine z_iast10n (q := ((4*n) + 3)) F (by with_reducible assumption) (by first | with_reducible rfl | (simp only [n4, n2, n3, n5, n14, n16, na1, na2, na3, nI_add, nI_1, nI_pred]; done) | (simp only [n4, n2, n3, n5, n14, n16, na1, na2, na3, nI_add, nI_1, nI_pred, Nat.add_assoc, Nat.add_comm, Nat.add_left_comm]; done)) (by rw [hz5]; omega) dX8_readThing_188 ?_
        refine ZW_gen (fun M3 => ∃ v3, RS M0 M3 (opP (M0.1 142) len W2 P2 99 30) (opW (M0.1 142) len W2 P2 99 30) n m (va_up (va_up (va_up (va_up th (4 * n) kd) (4 * n + 1) r_131) (4 * n + 2) v2) (4 * n + 3) v3) pe ∧ (opW (M0.1 142) len W2 P2 99 30 = 0 → v3 = (optF (M0.1 142) len P2 99 30).1)) ?_ (fun M3 ⟨v3, R3, e3⟩ => ?_)
        · refine ⟨0, ?_, fun z => ?_⟩
          · rw [opP, opW, if_neg h_175, if_neg h_175]
            exact R_172.th _ _
          · rw [optF, if_neg (fun y => h_175 ⟨?_, y⟩)]
            rw [opW, if_neg h_175] at z
            exact z
        refine z_aload_n F dX8_readThing_189 rfl ?_
        refine z_dup F dX8_readThing_190 rfl ?_
        refine zg_X8_manyThings F (by with_reducible assumption) fl_X8_139 dX8_readThing_191 ?_
        rw [R3.2.2.2.1]
        refine z_iconst (v := 1) F dX8_readThing_194 (by decide) ?_
        refine z_iadd F dX8_readThing_195 ?_
        refine zp_X8_manyThings F (by with_reducible assumption) fl_X8_139 dX8_readThing_196 ?_
        refine z_vret F X dX8_readThing_199 ?_
        rw [nI_1]
        have R4 := R3.mt (n + 1)
        rcases te with ⟨t1, t2, t3⟩ | ⟨t1, t2, t3, t4, t5, t6⟩
        · rw [t2, t3] at R4
          exact Or.inl ⟨t1, _, R4⟩
        · have e3' := e3 t4
          rw [t4, t5] at R4
          have e2' := e2 t3
          have e1' := e_131 t2
          rw [e1', e2', e3'] at R4
          refine Or.inr ⟨t1, ?_⟩
          rw [t6]
          exact R4
      · replace h_175 := bI_1.mp h_175
        refine z_aload_n F dX8_readThing_178 rfl ?_
        refine z_bipush (v := 30) F dX8_readThing_179 (by decide) ?_
        refine z_callVi F (p_numW J (h0 := 30) (hi := 30) R_172 hl h120 (hsP_le l2 (by decide)) w2 rfl (by decide)) zm_X8_number zv_X8_number ml_X8_142 (by with_reducible assumption) (by decide) rfl rfl rfl (Nat.le_of_ble_eq_true rfl) dX8_readThing_181 (by omega) (fun r_181 M_181 h_181 => ?_)
        obtain ⟨R_181, e_181⟩ := h_181
        refine z_goto (tgt := 188) F dX8_readThing_184 (by decide) ?_
        refine z_iast10n (q := ((4*n) + 3)) F (by with_reducible assumption) (by first | with_reducible rfl | (simp only [n4, n2, n3, n5, n14, n16, na1, na2, na3, nI_add, nI_1, nI_pred]; done) | (simp only [n4, n2, n3, n5, n14, n16, na1, na2, na3, nI_add, nI_1, nI_pred, Nat.add_assoc, Nat.add_comm, Nat.add_left_comm]; done)) (by rw [hz5]; omega) dX8_readThing_188 ?_
        refine ZW_gen (fun M3 => ∃ v3, RS M0 M3 (opP (M0.1 142) len W2 P2 99 30) (opW (M0.1 142) len W2 P2 99 30) n m (va_up (va_up (va_up (va_up th (4 * n) kd) (4 * n + 1) r_131) (4 * n + 2) v2) (4 * n + 3) v3) pe ∧ (opW (M0.1 142) len W2 P2 99 30 = 0 → v3 = (optF (M0.1 142) len P2 99 30).1)) ?_ (fun M3 ⟨v3, R3, e3⟩ => ?_)
        · obtain ⟨z1, z2⟩ := h_175
          refine ⟨r_181, ?_, fun z => ?_⟩
          · rw [opP, opW, if_pos ⟨z1, z2⟩, if_pos ⟨z1, z2⟩]
            exact R_181.th _ _
          · rw [opW, if_pos ⟨z1, z2⟩] at z
            rw [optF, if_pos z2, e_181 z, hsP, if_pos z1]
        refine z_aload_n F dX8_readThing_189 rfl ?_
        refine z_dup F dX8_readThing_190 rfl ?_
        refine zg_X8_manyThings F (by with_reducible assumption) fl_X8_139 dX8_readThing_191 ?_
        rw [R3.2.2.2.1]
        refine z_iconst (v := 1) F dX8_readThing_194 (by decide) ?_
        refine z_iadd F dX8_readThing_195 ?_
        refine zp_X8_manyThings F (by with_reducible assumption) fl_X8_139 dX8_readThing_196 ?_
        refine z_vret F X dX8_readThing_199 ?_
        rw [nI_1]
        have R4 := R3.mt (n + 1)
        rcases te with ⟨t1, t2, t3⟩ | ⟨t1, t2, t3, t4, t5, t6⟩
        · rw [t2, t3] at R4
          exact Or.inl ⟨t1, _, R4⟩
        · have e3' := e3 t4
          rw [t4, t5] at R4
          have e2' := e2 t3
          have e1' := e_131 t2
          rw [e1', e2', e3'] at R4
          refine Or.inr ⟨t1, ?_⟩
          rw [t6]
          exact R4
    · replace h_148 := bI_1.mp h_148
      refine z_aload_n F dX8_readThing_151 rfl ?_
      refine z_bipush (v := 30) F dX8_readThing_152 (by decide) ?_
      refine z_callVi F (p_numW J (h0 := 30) (hi := 30) R_145 hl h120 (hsP_le l1 (by decide)) w1 rfl (by decide)) zm_X8_number zv_X8_number ml_X8_142 (by with_reducible assumption) (by decide) rfl rfl rfl (Nat.le_of_ble_eq_true rfl) dX8_readThing_154 (by omega) (fun r_154 M_154 h_154 => ?_)
      obtain ⟨R_154, e_154⟩ := h_154
      refine z_goto (tgt := 161) F dX8_readThing_157 (by decide) ?_
      refine z_iast10n (q := ((4*n) + 2)) F (by with_reducible assumption) (by first | with_reducible rfl | (simp only [n4, n2, n3, n5, n14, n16, na1, na2, na3, nI_add, nI_1, nI_pred]; done) | (simp only [n4, n2, n3, n5, n14, n16, na1, na2, na3, nI_add, nI_1, nI_pred, Nat.add_assoc, Nat.add_comm, Nat.add_left_comm]; done)) (by rw [hz5]; omega) dX8_readThing_161 ?_
      refine ZW_gen (fun M2 => ∃ v2, RS M0 M2 P2 W2 n m (va_up (va_up (va_up th (4 * n) kd) (4 * n + 1) r_131) (4 * n + 2) v2) pe ∧ (W2 = 0 → v2 = (optF (M0.1 142) len P1 108 30).1)) ?_ (fun M2 ⟨v2, R2, e2⟩ => ?_)
      · obtain ⟨z1, z2⟩ := h_148
        refine ⟨r_154, ?_, fun z => ?_⟩
        · rw [← hW2, ← hP2, opP, opW, if_pos ⟨z1, z2⟩, if_pos ⟨z1, z2⟩]
          exact R_154.th _ _
        · rw [← hW2, opW, if_pos ⟨z1, z2⟩] at z
          rw [optF, if_pos z2, e_154 z, hsP, if_pos z1]
      refine z_aload_n F dX8_readThing_162 rfl ?_
      refine zg_X8_readThings F (by with_reducible assumption) fl_X8_22 dX8_readThing_163 (fun hk_163 => ?_)
      refine z_iload_n F dX8_readThing_166 rfl ?_
      refine z_iconst (v := 3) F dX8_readThing_167 (by decide) ?_
      refine z_iadd F dX8_readThing_168 ?_
      refine z_aload_n F dX8_readThing_169 rfl ?_
      refine z_bipush (v := 99) F dX8_readThing_170 (by decide) ?_
      refine z_callVi F (p_has J R2 hl h120 l2 w2) zm_X8_has zv_X8_has ml_X8_145 (by with_reducible assumption) (by decide) rfl rfl rfl (Nat.le_of_ble_eq_true rfl) dX8_readThing_172 (by omega) (fun r_172 M_172 h_172 => ?_)
      obtain ⟨R_172, e_172⟩ := h_172
      subst e_172
      refine z_if_eq (tgt := 187) F dX8_readThing_175 (by decide) (fun h_175 => ?_) (fun h_175 => ?_)
      · replace h_175 := bI_0.mp h_175
        refine z_iconst (v := 0) F dX8_readThing_187 (by decide) ?_
        refine z_iast10n (q := ((4*n) + 3)) F (by with_reducible assumption) (by first | with_reducible rfl | (simp only [n4, n2, n3, n5, n14, n16, na1, na2, na3, nI_add, nI_1, nI_pred]; done) | (simp only [n4, n2, n3, n5, n14, n16, na1, na2, na3, nI_add, nI_1, nI_pred, Nat.add_assoc, Nat.add_comm, Nat.add_left_comm]; done)) (by rw [hz5]; omega) dX8_readThing_188 ?_
        refine ZW_gen (fun M3 => ∃ v3, RS M0 M3 (opP (M0.1 142) len W2 P2 99 30) (opW (M0.1 142) len W2 P2 99 30) n m (va_up (va_up (va_up (va_up th (4 * n) kd) (4 * n + 1) r_131) (4 * n + 2) v2) (4 * n + 3) v3) pe ∧ (opW (M0.1 142) len W2 P2 99 30 = 0 → v3 = (optF (M0.1 142) len P2 99 30).1)) ?_ (fun M3 ⟨v3, R3, e3⟩ => ?_)
        · refine ⟨0, ?_, fun z => ?_⟩
          · rw [opP, opW, if_neg h_175, if_neg h_175]
            exact R_172.th _ _
          · rw [optF, if_neg (fun y => h_175 ⟨?_, y⟩)]
            rw [opW, if_neg h_175] at z
            exact z
        refine z_aload_n F dX8_readThing_189 rfl ?_
        refine z_dup F dX8_readThing_190 rfl ?_
        refine zg_X8_manyThings F (by with_reducible assumption) fl_X8_139 dX8_readThing_191 ?_
        rw [R3.2.2.2.1]
        refine z_iconst (v := 1) F dX8_readThing_194 (by decide) ?_
        refine z_iadd F dX8_readThing_195 ?_
        refine zp_X8_manyThings F (by with_reducible assumption) fl_X8_139 dX8_readThing_196 ?_
        refine z_vret F X dX8_readThing_199 ?_
        rw [nI_1]
        have R4 := R3.mt (n + 1)
        rcases te with ⟨t1, t2, t3⟩ | ⟨t1, t2, t3, t4, t5, t6⟩
        · rw [t2, t3] at R4
          exact Or.inl ⟨t1, _, R4⟩
        · have e3' := e3 t4
          rw [t4, t5] at R4
          have e2' := e2 t3
          have e1' := e_131 t2
          rw [e1', e2', e3'] at R4
          refine Or.inr ⟨t1, ?_⟩
          rw [t6]
          exact R4
      · replace h_175 := bI_1.mp h_175
        refine z_aload_n F dX8_readThing_178 rfl ?_
        refine z_bipush (v := 30) F dX8_readThing_179 (by decide) ?_
        refine z_callVi F (p_numW J (h0 := 30) (hi := 30) R_172 hl h120 (hsP_le l2 (by decide)) w2 rfl (by decide)) zm_X8_number zv_X8_number ml_X8_142 (by with_reducible assumption) (by decide) rfl rfl rfl (Nat.le_of_ble_eq_true rfl) dX8_readThing_181 (by omega) (fun r_181 M_181 h_181 => ?_)
        obtain ⟨R_181, e_181⟩ := h_181
        refine z_goto (tgt := 188) F dX8_readThing_184 (by decide) ?_
        refine z_iast10n (q := ((4*n) + 3)) F (by with_reducible assumption) (by first | with_reducible rfl | (simp only [n4, n2, n3, n5, n14, n16, na1, na2, na3, nI_add, nI_1, nI_pred]; done) | (simp only [n4, n2, n3, n5, n14, n16, na1, na2, na3, nI_add, nI_1, nI_pred, Nat.add_assoc, Nat.add_comm, Nat.add_left_comm]; done)) (by rw [hz5]; omega) dX8_readThing_188 ?_
        refine ZW_gen (fun M3 => ∃ v3, RS M0 M3 (opP (M0.1 142) len W2 P2 99 30) (opW (M0.1 142) len W2 P2 99 30) n m (va_up (va_up (va_up (va_up th (4 * n) kd) (4 * n + 1) r_131) (4 * n + 2) v2) (4 * n + 3) v3) pe ∧ (opW (M0.1 142) len W2 P2 99 30 = 0 → v3 = (optF (M0.1 142) len P2 99 30).1)) ?_ (fun M3 ⟨v3, R3, e3⟩ => ?_)
        · obtain ⟨z1, z2⟩ := h_175
          refine ⟨r_181, ?_, fun z => ?_⟩
          · rw [opP, opW, if_pos ⟨z1, z2⟩, if_pos ⟨z1, z2⟩]
            exact R_181.th _ _
          · rw [opW, if_pos ⟨z1, z2⟩] at z
            rw [optF, if_pos z2, e_181 z, hsP, if_pos z1]
        refine z_aload_n F dX8_readThing_189 rfl ?_
        refine z_dup F dX8_readThing_190 rfl ?_
        refine zg_X8_manyThings F (by with_reducible assumption) fl_X8_139 dX8_readThing_191 ?_
        rw [R3.2.2.2.1]
        refine z_iconst (v := 1) F dX8_readThing_194 (by decide) ?_
        refine z_iadd F dX8_readThing_195 ?_
        refine zp_X8_manyThings F (by with_reducible assumption) fl_X8_139 dX8_readThing_196 ?_
        refine z_vret F X dX8_readThing_199 ?_
        rw [nI_1]
        have R4 := R3.mt (n + 1)
        rcases te with ⟨t1, t2, t3⟩ | ⟨t1, t2, t3, t4, t5, t6⟩
        · rw [t2, t3] at R4
          exact Or.inl ⟨t1, _, R4⟩
        · have e3' := e3 t4
          rw [t4, t5] at R4
          have e2' := e2 t3
          have e1' := e_131 t2
          rw [e1', e2', e3'] at R4
          refine Or.inr ⟨t1, ?_⟩
          rw [t6]
          exact R4
  refine z_iconst (v := 4) F dX8_readThing_0 (by decide) ?_
  refine z_aload_n F dX8_readThing_1 rfl ?_
  refine zg_X8_manyThings F (by with_reducible assumption) fl_X8_139 dX8_readThing_2 ?_
  try simp only [h.2.2.2.1, h.2.2.1]
  refine z_imul F dX8_readThing_5 ?_
  rw [n4]
  refine z_istore_n (lv' := [_, _, _]) F dX8_readThing_6 (by decide) rfl rfl ?_
  refine z_aload_n F dX8_readThing_7 rfl ?_
  refine zg_X8_wrong F (by with_reducible assumption) fl_X8_127 dX8_readThing_8 ?_
  try simp only [h.2.2.2.1, h.2.2.1]
  refine z_if_eq (tgt := 18) F dX8_readThing_11 (by decide) (fun h_11 => ?_) (fun h_11 => absurd h_11 (by decide))
  refine z_aload_n F dX8_readThing_18 rfl ?_
  refine z_callVi F (p_here J h hl h120 hp) zm_X8_here zv_X8_here ml_X8_131 (by with_reducible assumption) (by decide) rfl rfl rfl (Nat.le_of_ble_eq_true rfl) dX8_readThing_19 (by omega) (fun r_19 M_19 h_19 => ?_)
  obtain ⟨R_19, e_19⟩ := h_19
  generalize hc : chF (M0.1 142) len (nxP (M0.1 142) (len - p) p) = c at e_19
  subst e_19
  refine z_istore_n (lv' := [_, _, _]) F dX8_readThing_22 (by decide) rfl rfl ?_
  refine z_aload_n F dX8_readThing_23 rfl ?_
  refine zg_X8_readThings F (by with_reducible assumption) fl_X8_22 dX8_readThing_24 (fun hk_24 => ?_)
  refine z_iload_n F dX8_readThing_27 rfl ?_
  refine z_iload_n F dX8_readThing_28 rfl ?_
  refine z_bipush (v := 112) F dX8_readThing_29 (by decide) ?_
  refine z_ic_ne (tgt := 38) F dX8_readThing_31 (by decide) (fun h_31 => ?_) (fun h_31 => ?_)
  · try simp only [h.2.2.2.1, h.2.2.1] at h_31
    refine z_iload_n F dX8_readThing_38 rfl ?_
    refine z_bipush (v := 98) F dX8_readThing_39 (by decide) ?_
    refine z_ic_ne (tgt := 48) F dX8_readThing_41 (by decide) (fun h_41 => ?_) (fun h_41 => ?_)
    · try simp only [h.2.2.2.1, h.2.2.1] at h_41
      refine z_iload_n F dX8_readThing_48 rfl ?_
      refine z_bipush (v := 117) F dX8_readThing_49 (by decide) ?_
      refine z_ic_ne (tgt := 58) F dX8_readThing_51 (by decide) (fun h_51 => ?_) (fun h_51 => ?_)
      · try simp only [h.2.2.2.1, h.2.2.1] at h_51
        refine z_iconst (v := 3) F dX8_readThing_58 (by decide) ?_
        refine z_iast10n (q := (4 * n)) F (by with_reducible assumption) (by first | with_reducible rfl | (simp only [n4, n2, n3, n5, n14, n16, na1, na2, na3, nI_add, nI_1, nI_pred]; done) | (simp only [n4, n2, n3, n5, n14, n16, na1, na2, na3, nI_add, nI_1, nI_pred, Nat.add_assoc, Nat.add_comm, Nat.add_left_comm]; done)) (by rw [hz5]; omega) dX8_readThing_59 ?_
        refine z_aload_n F dX8_readThing_60 rfl ?_
        refine z_aload_n F dX8_readThing_61 rfl ?_
        refine zg_X8_wrong F (by with_reducible assumption) fl_X8_127 dX8_readThing_62 ?_
        simp +decide only [zs_g, false_and, if_false, R_19.2.2.1]
        refine z_if_ne (tgt := 92) F dX8_readThing_65 (by decide) (fun h_65 => absurd h_65 (by decide)) (fun h_65 => ?_)
        refine z_iload_n F dX8_readThing_68 rfl ?_
        refine z_bipush (v := 112) F dX8_readThing_69 (by decide) ?_
        refine z_ic_eq (tgt := 96) F dX8_readThing_71 (by decide) (fun h_71 => absurd h_71 h_31) (fun h_71 => ?_)
        refine z_iload_n F dX8_readThing_74 rfl ?_
        refine z_bipush (v := 98) F dX8_readThing_75 (by decide) ?_
        refine z_ic_eq (tgt := 96) F dX8_readThing_77 (by decide) (fun h_77 => absurd h_77 h_41) (fun h_77 => ?_)
        refine z_iload_n F dX8_readThing_80 rfl ?_
        refine z_bipush (v := 117) F dX8_readThing_81 (by decide) ?_
        refine z_ic_eq (tgt := 96) F dX8_readThing_83 (by decide) (fun h_83 => absurd h_83 h_51) (fun h_83 => ?_)
        refine z_iload_n F dX8_readThing_86 rfl ?_
        refine z_bipush (v := 109) F dX8_readThing_87 (by decide) ?_
        refine z_ic_eq (tgt := 96) F dX8_readThing_89 (by decide) (fun h_89 => ?_) (fun h_89 => ?_)
        · try simp only [h.2.2.2.1, h.2.2.1] at h_89
          refine z_iconst (v := 0) F dX8_readThing_96 (by decide) ?_
          refine zp_X8_wrong F (by with_reducible assumption) fl_X8_127 (by decide) (by decide) dX8_readThing_97 ?_
          refine z_aload_n F dX8_readThing_100 rfl ?_
          refine z_dup F dX8_readThing_101 rfl ?_
          refine zg_X8_at F (by with_reducible assumption) fl_X8_124 dX8_readThing_102 ?_
          simp +decide only [zs_g, false_and, if_false, R_19.2.1]
          refine z_aload_n F dX8_readThing_105 rfl ?_
          refine zg_X8_wrong F (by with_reducible assumption) fl_X8_127 dX8_readThing_106 ?_
          simp +decide only [zs_g, if_true]
          refine z_if_eq (tgt := 116) F dX8_readThing_109 (by decide) (fun h_109 => ?_) (fun h_109 => absurd h_109 (by decide))
          refine z_iconst (v := 1) F dX8_readThing_116 (by decide) ?_
          refine z_iadd F dX8_readThing_117 ?_
          refine zp_X8_at F (by with_reducible assumption) fl_X8_124 dX8_readThing_118 ?_
          rw [nI_1]
          refine tail 0 3 _ (nxP (M0.1 142) (len - p) p + 1) _ (((R_19.th (4 * n) 3).wr 0).at _) ?_ (Or.inr ⟨rfl, ?_, by decide, rfl⟩)
          · have := knd_lt (L := M0.1 142) (len := len) (q := nxP (M0.1 142) (len - p) p) (fun z => (knd_m.mp z).2.2.2 (hc.trans h_89)); omega
          · rw [hc, h_89]; decide
        · try simp only [h.2.2.2.1, h.2.2.1] at h_89
          refine z_iconst (v := 1) F dX8_readThing_92 (by decide) ?_
          refine z_goto (tgt := 97) F dX8_readThing_93 (by decide) ?_
          refine zp_X8_wrong F (by with_reducible assumption) fl_X8_127 (by decide) (by decide) dX8_readThing_97 ?_
          refine z_aload_n F dX8_readThing_100 rfl ?_
          refine z_dup F dX8_readThing_101 rfl ?_
          refine zg_X8_at F (by with_reducible assumption) fl_X8_124 dX8_readThing_102 ?_
          simp +decide only [zs_g, false_and, if_false, R_19.2.1]
          refine z_aload_n F dX8_readThing_105 rfl ?_
          refine zg_X8_wrong F (by with_reducible assumption) fl_X8_127 dX8_readThing_106 ?_
          simp +decide only [zs_g, if_true]
          refine z_if_eq (tgt := 116) F dX8_readThing_109 (by decide) (fun h_109 => absurd h_109 (by decide)) (fun h_109 => ?_)
          refine z_iconst (v := 0) F dX8_readThing_112 (by decide) ?_
          refine z_goto (tgt := 117) F dX8_readThing_113 (by decide) ?_
          refine z_iadd F dX8_readThing_117 ?_
          refine zp_X8_at F (by with_reducible assumption) fl_X8_124 dX8_readThing_118 ?_
          rw [Int32.add_zero]
          have z : kndF r_19 < 0 := knd_m.mpr ⟨h_31, h_41, h_51, h_89⟩
          rw [← hc] at z
          refine tail 1 3 _ (nxP (M0.1 142) (len - p) p) _ (((R_19.th (4 * n) 3).wr 1).at _) (by omega) (Or.inl ⟨rfl, ?_, ?_⟩)
          · rw [thiF, if_pos z]
          · rw [thiF, if_pos z]
      · try simp only [h.2.2.2.1, h.2.2.1] at h_51
        refine z_iconst (v := 2) F dX8_readThing_54 (by decide) ?_
        refine z_goto (tgt := 59) F dX8_readThing_55 (by decide) ?_
        refine z_iast10n (q := (4 * n)) F (by with_reducible assumption) (by first | with_reducible rfl | (simp only [n4, n2, n3, n5, n14, n16, na1, na2, na3, nI_add, nI_1, nI_pred]; done) | (simp only [n4, n2, n3, n5, n14, n16, na1, na2, na3, nI_add, nI_1, nI_pred, Nat.add_assoc, Nat.add_comm, Nat.add_left_comm]; done)) (by rw [hz5]; omega) dX8_readThing_59 ?_
        refine z_aload_n F dX8_readThing_60 rfl ?_
        refine z_aload_n F dX8_readThing_61 rfl ?_
        refine zg_X8_wrong F (by with_reducible assumption) fl_X8_127 dX8_readThing_62 ?_
        simp +decide only [zs_g, false_and, if_false, R_19.2.2.1]
        refine z_if_ne (tgt := 92) F dX8_readThing_65 (by decide) (fun h_65 => absurd h_65 (by decide)) (fun h_65 => ?_)
        refine z_iload_n F dX8_readThing_68 rfl ?_
        refine z_bipush (v := 112) F dX8_readThing_69 (by decide) ?_
        refine z_ic_eq (tgt := 96) F dX8_readThing_71 (by decide) (fun h_71 => absurd h_71 h_31) (fun h_71 => ?_)
        refine z_iload_n F dX8_readThing_74 rfl ?_
        refine z_bipush (v := 98) F dX8_readThing_75 (by decide) ?_
        refine z_ic_eq (tgt := 96) F dX8_readThing_77 (by decide) (fun h_77 => absurd h_77 h_41) (fun h_77 => ?_)
        refine z_iload_n F dX8_readThing_80 rfl ?_
        refine z_bipush (v := 117) F dX8_readThing_81 (by decide) ?_
        refine z_ic_eq (tgt := 96) F dX8_readThing_83 (by decide) (fun h_83 => ?_) (fun h_83 => absurd h_83 (fun z => z h_51))
        refine z_iconst (v := 0) F dX8_readThing_96 (by decide) ?_
        refine zp_X8_wrong F (by with_reducible assumption) fl_X8_127 (by decide) (by decide) dX8_readThing_97 ?_
        refine z_aload_n F dX8_readThing_100 rfl ?_
        refine z_dup F dX8_readThing_101 rfl ?_
        refine zg_X8_at F (by with_reducible assumption) fl_X8_124 dX8_readThing_102 ?_
        simp +decide only [zs_g, false_and, if_false, R_19.2.1]
        refine z_aload_n F dX8_readThing_105 rfl ?_
        refine zg_X8_wrong F (by with_reducible assumption) fl_X8_127 dX8_readThing_106 ?_
        simp +decide only [zs_g, if_true]
        refine z_if_eq (tgt := 116) F dX8_readThing_109 (by decide) (fun h_109 => ?_) (fun h_109 => absurd h_109 (by decide))
        refine z_iconst (v := 1) F dX8_readThing_116 (by decide) ?_
        refine z_iadd F dX8_readThing_117 ?_
        refine zp_X8_at F (by with_reducible assumption) fl_X8_124 dX8_readThing_118 ?_
        rw [nI_1]
        refine tail 0 2 _ (nxP (M0.1 142) (len - p) p + 1) _ (((R_19.th (4 * n) 2).wr 0).at _) ?_ (Or.inr ⟨rfl, ?_, by decide, rfl⟩)
        · have := knd_lt (L := M0.1 142) (len := len) (q := nxP (M0.1 142) (len - p) p) (fun z => (knd_m.mp z).2.2.1 (hc.trans h_51)); omega
        · rw [hc, h_51]; decide
    · try simp only [h.2.2.2.1, h.2.2.1] at h_41
      refine z_iconst (v := 1) F dX8_readThing_44 (by decide) ?_
      refine z_goto (tgt := 59) F dX8_readThing_45 (by decide) ?_
      refine z_iast10n (q := (4 * n)) F (by with_reducible assumption) (by first | with_reducible rfl | (simp only [n4, n2, n3, n5, n14, n16, na1, na2, na3, nI_add, nI_1, nI_pred]; done) | (simp only [n4, n2, n3, n5, n14, n16, na1, na2, na3, nI_add, nI_1, nI_pred, Nat.add_assoc, Nat.add_comm, Nat.add_left_comm]; done)) (by rw [hz5]; omega) dX8_readThing_59 ?_
      refine z_aload_n F dX8_readThing_60 rfl ?_
      refine z_aload_n F dX8_readThing_61 rfl ?_
      refine zg_X8_wrong F (by with_reducible assumption) fl_X8_127 dX8_readThing_62 ?_
      simp +decide only [zs_g, false_and, if_false, R_19.2.2.1]
      refine z_if_ne (tgt := 92) F dX8_readThing_65 (by decide) (fun h_65 => absurd h_65 (by decide)) (fun h_65 => ?_)
      refine z_iload_n F dX8_readThing_68 rfl ?_
      refine z_bipush (v := 112) F dX8_readThing_69 (by decide) ?_
      refine z_ic_eq (tgt := 96) F dX8_readThing_71 (by decide) (fun h_71 => absurd h_71 h_31) (fun h_71 => ?_)
      refine z_iload_n F dX8_readThing_74 rfl ?_
      refine z_bipush (v := 98) F dX8_readThing_75 (by decide) ?_
      refine z_ic_eq (tgt := 96) F dX8_readThing_77 (by decide) (fun h_77 => ?_) (fun h_77 => absurd h_77 (fun z => z h_41))
      refine z_iconst (v := 0) F dX8_readThing_96 (by decide) ?_
      refine zp_X8_wrong F (by with_reducible assumption) fl_X8_127 (by decide) (by decide) dX8_readThing_97 ?_
      refine z_aload_n F dX8_readThing_100 rfl ?_
      refine z_dup F dX8_readThing_101 rfl ?_
      refine zg_X8_at F (by with_reducible assumption) fl_X8_124 dX8_readThing_102 ?_
      simp +decide only [zs_g, false_and, if_false, R_19.2.1]
      refine z_aload_n F dX8_readThing_105 rfl ?_
      refine zg_X8_wrong F (by with_reducible assumption) fl_X8_127 dX8_readThing_106 ?_
      simp +decide only [zs_g, if_true]
      refine z_if_eq (tgt := 116) F dX8_readThing_109 (by decide) (fun h_109 => ?_) (fun h_109 => absurd h_109 (by decide))
      refine z_iconst (v := 1) F dX8_readThing_116 (by decide) ?_
      refine z_iadd F dX8_readThing_117 ?_
      refine zp_X8_at F (by with_reducible assumption) fl_X8_124 dX8_readThing_118 ?_
      rw [nI_1]
      refine tail 0 1 _ (nxP (M0.1 142) (len - p) p + 1) _ (((R_19.th (4 * n) 1).wr 0).at _) ?_ (Or.inr ⟨rfl, ?_, by decide, rfl⟩)
      · have := knd_lt (L := M0.1 142) (len := len) (q := nxP (M0.1 142) (len - p) p) (fun z => (knd_m.mp z).2.1 (hc.trans h_41)); omega
      · rw [hc, h_41]; decide
  · try simp only [h.2.2.2.1, h.2.2.1] at h_31
    refine z_iconst (v := 0) F dX8_readThing_34 (by decide) ?_
    refine z_goto (tgt := 59) F dX8_readThing_35 (by decide) ?_
    refine z_iast10n (q := (4 * n)) F (by with_reducible assumption) (by first | with_reducible rfl | (simp only [n4, n2, n3, n5, n14, n16, na1, na2, na3, nI_add, nI_1, nI_pred]; done) | (simp only [n4, n2, n3, n5, n14, n16, na1, na2, na3, nI_add, nI_1, nI_pred, Nat.add_assoc, Nat.add_comm, Nat.add_left_comm]; done)) (by rw [hz5]; omega) dX8_readThing_59 ?_
    refine z_aload_n F dX8_readThing_60 rfl ?_
    refine z_aload_n F dX8_readThing_61 rfl ?_
    refine zg_X8_wrong F (by with_reducible assumption) fl_X8_127 dX8_readThing_62 ?_
    simp +decide only [zs_g, false_and, if_false, R_19.2.2.1]
    refine z_if_ne (tgt := 92) F dX8_readThing_65 (by decide) (fun h_65 => absurd h_65 (by decide)) (fun h_65 => ?_)
    refine z_iload_n F dX8_readThing_68 rfl ?_
    refine z_bipush (v := 112) F dX8_readThing_69 (by decide) ?_
    refine z_ic_eq (tgt := 96) F dX8_readThing_71 (by decide) (fun h_71 => ?_) (fun h_71 => absurd h_71 (fun z => z h_31))
    refine z_iconst (v := 0) F dX8_readThing_96 (by decide) ?_
    refine zp_X8_wrong F (by with_reducible assumption) fl_X8_127 (by decide) (by decide) dX8_readThing_97 ?_
    refine z_aload_n F dX8_readThing_100 rfl ?_
    refine z_dup F dX8_readThing_101 rfl ?_
    refine zg_X8_at F (by with_reducible assumption) fl_X8_124 dX8_readThing_102 ?_
    simp +decide only [zs_g, false_and, if_false, R_19.2.1]
    refine z_aload_n F dX8_readThing_105 rfl ?_
    refine zg_X8_wrong F (by with_reducible assumption) fl_X8_127 dX8_readThing_106 ?_
    simp +decide only [zs_g, if_true]
    refine z_if_eq (tgt := 116) F dX8_readThing_109 (by decide) (fun h_109 => ?_) (fun h_109 => absurd h_109 (by decide))
    refine z_iconst (v := 1) F dX8_readThing_116 (by decide) ?_
    refine z_iadd F dX8_readThing_117 ?_
    refine zp_X8_at F (by with_reducible assumption) fl_X8_124 dX8_readThing_118 ?_
    rw [nI_1]
    refine tail 0 0 _ (nxP (M0.1 142) (len - p) p + 1) _ (((R_19.th (4 * n) 0).wr 0).at _) ?_ (Or.inr ⟨rfl, ?_, by decide, rfl⟩)
    · have := knd_lt (L := M0.1 142) (len := len) (q := nxP (M0.1 142) (len - p) p) (fun z => (knd_m.mp z).1 (hc.trans h_31)); omega
    · rw [hc, h_31]; decide
