section
/-! calls that change the world, in pairs -/
theorem trx_3 {np : Nat} {d : Int32} {T T' : zF1} (t : trx np d s5 T T') (v : Int32) : trx np d s5 (va_up T 3 v) (va_up T' 3 v) := by
  obtain ⟨t0, t1, t2, t3, t4, t5⟩ := t
  refine ⟨?_, ?_, ?_, ?_, ?_, fun p hp => ?_⟩
  · simp +decide only [va_g, if_false, t0]
  · simp +decide only [va_g, if_false, t1]
  · simp +decide only [va_g, if_false, t2]
  · simp +decide only [va_g, if_true]
  · simp +decide only [va_g, if_false, t4]
  · unfold s5
    rw [va_up_ne _ _ (by omega), va_up_ne _ _ (by omega)]
    exact t5 p hp
theorem tOK_3 {nt np b : Nat} {T : zF1} (h : tOK nt np T) (hb : b ≤ 12) : tOK nt np (va_up T 3 (nI b)) := by
  obtain ⟨h1, h2, h3, _⟩ := h
  refine ⟨tv9_up1 h1 3 _ (Or.inr (Or.inl rfl)), uq_eq h2 (va_up_ne _ _ (by decide)) (fun p hp => va_up_ne _ _ (by omega)), fun z => ?_, b, hb, va_up_self _ _ _⟩
  rw [va_up_ne _ _ (by decide)] at z ⊢
  exact h3 z
theorem peE_up {np : Nat} {f g : zF1} (h : peE np f g) {k : Nat} {v : Int32} : peE np (va_up f k v) (va_up g k v) := fun q hq => by
  by_cases z : q = k
  · subst z; rw [va_up_self, va_up_self]
  · rw [va_up_ne _ _ z, va_up_ne _ _ z]; exact h q hq
theorem mOK_up {np j : Nat} {f : zF1} (h : mOK np f) {v : Int32} : mOK np (va_up f (2 * j) v) := fun p hp => by
  obtain ⟨a, b, c⟩ := h p hp
  exact ⟨a, b, by rw [va_up_ne _ _ (by omega)]; exact c⟩
theorem peE_new {np : Nat} {f g : zF1} (h : peE np f g) {v u : Int32} : peE (np + 1) (va_up (va_up f (2 * np) v) (2 * np + 1) u) (va_up (va_up g (2 * np) v) (2 * np + 1) u) := fun q hq => by
  by_cases z : q = 2 * np + 1
  · subst z; rw [va_up_self, va_up_self]
  · rw [va_up_ne _ _ z, va_up_ne _ _ z]
    by_cases y : q = 2 * np
    · subst y; rw [va_up_self, va_up_self]
    · rw [va_up_ne _ _ y, va_up_ne _ _ y]; exact h q (by omega)
theorem trx_new {np : Nat} {d x : Int32} {T T' : zF1} (t : trx np d s5 T T') : trx (np + 1) d s5 (va_up T (5 + np) x) (va_up T' (5 + np) x) := by
  obtain ⟨t0, t1, t2, t3, t4, t5⟩ := t
  refine ⟨?_, ?_, ?_, ?_, ?_, fun p hp => ?_⟩
  · rw [va_up_ne _ _ (by omega), va_up_ne _ _ (by omega), t0]
  · rw [va_up_ne _ _ (by omega), va_up_ne _ _ (by omega), t1]
  · rw [va_up_ne _ _ (by omega), va_up_ne _ _ (by omega), t2]
  · rw [va_up_ne _ _ (by omega), va_up_ne _ _ (by omega), t3]
  · rw [va_up_ne _ _ (by omega), va_up_ne _ _ (by omega), t4]
  · unfold s5
    by_cases z : p = np
    · subst z; rw [va_up_self, va_up_self]
    · rw [va_up_ne _ _ (by omega), va_up_ne _ _ (by omega)]; exact t5 p (by omega)
theorem kd_up {nt : Nat} {f : zF1} {a b c d : Int32} (h : kdOK f) (g : ¬ (a < 0 ∨ 3 < a)) : kdOK (setF f nt a b c d) := fun j hj => by
  by_cases z : j = nt
  · subst z
    rw [(setF_at f j a b c d).1]
    obtain ⟨i, hi, rfl⟩ := in_n (n := 3) 3 (by decide) g
    have : i = 0 ∨ i = 1 ∨ i = 2 ∨ i = 3 := by omega
    rcases this with rfl | rfl | rfl | rfl
    · exact Or.inl rfl
    · exact Or.inr (Or.inl rfl)
    · exact Or.inr (Or.inr (Or.inl rfl))
    · exact Or.inr (Or.inr (Or.inr rfl))
  · rw [setF_off f nt a b c d (by omega)]; exact h j hj
theorem w_up {nt : Nat} {f : zF1} {a b c d : Int32} (h : wOK nt f) (g : ¬ (b < 0 ∨ 99 < b)) : wOK (nt + 1) (setF f nt a b c d) := fun j hj => by
  by_cases z : j = nt
  · subst z
    rw [(setF_at f j a b c d).2]
    exact in_n (n := 99) 99 (by decide) g
  · rw [setF_off f nt a b c d (by omega)]; exact h j (by omega)
theorem m_up {np : Nat} {f : zF1} {v u : Int32} (h : mOK np f) (g : ¬ (u < 0 ∨ 20 < u)) : mOK (np + 1) (va_up (va_up f (2 * np) v) (2 * np + 1) u) := fun p hp => by
  by_cases z : p = np
  · subst z
    rw [va_up_self]
    exact in_n (n := 20) 20 (by decide) g
  · rw [va_up_ne _ _ (by omega), va_up_ne _ _ (by omega)]; exact h p (by omega)
theorem go_end {M N : zM} {nt np ah u len : Nat} {T1 T2 U2 : zF1} {d rf2 : Int32} (S : SX M M nt np ah u len) (y2 : ah < 12) (p16 : N.1 16 = T1) (p1 : N.1 1 3 = nI (notN u)) (pb : ∀ b, b ≠ 1 → b ≠ 16 → b ≠ 17 → b ≠ 18 → (∀ k, k < 8 → b ≠ 19 + 2 * k) → N.1 b = M.1 b) (p2 : N.2 = M.2) (pm' : pmF (N.1 18)) (ps' : ∀ j, j < notN u → ∃ d, trx np d s5 (N.1 (19 + 2 * (N.1 18 j).toNatClampNeg)) (rowT U2 j)) (pk' : ∀ j, j < notN u → tOK nt np (rowT U2 j)) (tp : trx np d s5 T1 T2) (tok : tOK nt np T2) (t3 : T2 3 = nI (ah + 1)) : Sim (zr (zs (zs (za N 145 U2) 138 20 (nI (notN u))) 138 7 (-4)) 138 T2 rf2) := by
  have h12 := S.bd.2.2.1
  have e145 : ∀ b, 138 ≤ b → N.1 b = M.1 b := fun b hb => pb b (by omega) (by omega) (by omega) (by omega) (fun k hk => by omega)
  have e : ∀ b, b ≠ 138 → b ≠ 141 → b ≠ 145 → (zr (zs (zs (za N 145 U2) 138 20 (nI (notN u))) 138 7 (-4)) 138 T2 rf2).1 b = N.1 b := fun b h1 h2 h3 => by rw [zr_off h1 h2, zs_off _ h1, zs_off _ h1, za_off _ h3]
  have f8 : ∀ k, k ≠ 7 → k ≠ 18 → k ≠ 20 → (zr (zs (zs (za N 145 U2) 138 20 (nI (notN u))) 138 7 (-4)) 138 T2 rf2).1 138 k = M.1 138 k := fun k h1 h2 h3 => by rw [zr_of _ _ _ _ h2, zs_g, if_neg (by omega), zs_g, if_neg (by omega), za_off _ (by decide), e145 138 (by omega)]
  have f20 : (zr (zs (zs (za N 145 U2) 138 20 (nI (notN u))) 138 7 (-4)) 138 T2 rf2).1 138 20 = nI (notN u) := by rw [zr_of _ _ _ _ (by decide), zs_g, if_neg (by decide), zs_at, va_up_self]
  have f141 : (zr (zs (zs (za N 145 U2) 138 20 (nI (notN u))) 138 7 (-4)) 138 T2 rf2).1 141 = T2 := zr_T _ 138 _ _
  have f145 : (zr (zs (zs (za N 145 U2) 138 20 (nI (notN u))) 138 7 (-4)) 138 T2 rf2).1 145 = U2 := by rw [zr_off (by decide) (by decide), zs_off _ (by decide), zs_off _ (by decide), za_at]
  have f2 : (zr (zs (zs (za N 145 U2) 138 20 (nI (notN u))) 138 7 (-4)) 138 T2 rf2).2 = M.2 := p2
  generalize zr (zs (zs (za N 145 U2) 138 20 (nI (notN u))) 138 7 (-4)) 138 T2 rf2 = Z at e f8 f20 f141 f145 f2
  have ee : ∀ b, b ≠ 138 → b ≠ 141 → b ≠ 145 → b ≠ 1 → b ≠ 16 → b ≠ 17 → b ≠ 18 → (∀ k, k < 8 → b ≠ 19 + 2 * k) → Z.1 b = M.1 b := fun b h1 h2 h3 h4 h5 h6 h7 h8 => (e b h1 h2 h3).trans (pb b h4 h5 h6 h7 h8)
  have hN : notN u ≤ 8 := by unfold notN; have := S.bd.2.2.2; split <;> omega
  have W : WN Z Z nt np (ah + 1) (notN u) := WN.mk ⟨S.bd.1, S.bd.2.1, by omega, hN⟩ ⟨by rw [ee 2 (by decide) (by decide) (by decide) (by decide) (by decide) (by decide) (by decide) (by omega)]; exact S.cf.1, by rw [ee 2 (by decide) (by decide) (by decide) (by decide) (by decide) (by decide) (by decide) (by omega)]; exact S.cf.2.1, by rw [ee 2 (by decide) (by decide) (by decide) (by decide) (by decide) (by decide) (by decide) (by omega), f8 5 (by decide) (by decide) (by decide)]; exact S.cf.2.2.1, by rw [ee 2 (by decide) (by decide) (by decide) (by decide) (by decide) (by decide) (by decide) (by omega), f8 6 (by decide) (by decide) (by decide)]; exact S.cf.2.2.2.1, by rw [e 1 (by decide) (by decide) (by decide)]; exact p1⟩ ⟨by rw [f8 0 (by decide) (by decide) (by decide)]; exact S.rf.1, by rw [f8 1 (by decide) (by decide) (by decide)]; exact S.rf.2.1, f20⟩ ⟨by rw [ee 3 (by decide) (by decide) (by decide) (by decide) (by decide) (by decide) (by decide) (by omega), ee 139 (by decide) (by decide) (by decide) (by decide) (by decide) (by decide) (by decide) (by omega)]; exact S.th, by rw [ee 14 (by decide) (by decide) (by decide) (by decide) (by decide) (by decide) (by decide) (by omega), ee 140 (by decide) (by decide) (by decide) (by decide) (by decide) (by decide) (by decide) (by omega)]; exact S.pe⟩ ⟨d, by rw [f141, e 16 (by decide) (by decide) (by decide), p16]; exact tp⟩ ⟨fun j hj => by rw [e 18 (by decide) (by decide) (by decide), f145, e _ (by have := pm_n pm' (k := j) (by omega); omega) (by have := pm_n pm' (k := j) (by omega); omega) (by have := pm_n pm' (k := j) (by omega); omega)]; exact ps' j hj, by rw [f145]; exact pk', by rw [e 18 (by decide) (by decide) (by decide)]; exact pm'⟩ ⟨by rw [ee 139 (by decide) (by decide) (by decide) (by decide) (by decide) (by decide) (by decide) (by omega)]; exact S.kd.1, by rw [ee 139 (by decide) (by decide) (by decide) (by decide) (by decide) (by decide) (by decide) (by omega)]; exact S.kd.2.1, by rw [ee 140 (by decide) (by decide) (by decide) (by decide) (by decide) (by decide) (by decide) (by omega)]; exact S.kd.2.2⟩ ⟨by rw [f141]; exact tok, by rw [f141]; exact t3⟩
  exact (S.world (M3 := Z) (fun b h1 h2 h3 => ee b (by omega) (by omega) (by omega) (by omega) (by omega) (by omega) (by omega) (fun k hk => by omega)) (fun b h1 => ee b (by omega) (by omega) (by omega) (by omega) (by omega) (by omega) (by omega) (fun k hk => by omega)) (fun k hk => f8 k (by omega) (by omega) (by omega)) ((f8 8 (by decide) (by decide) (by decide)).trans S.2.1) f2 W).sim
theorem past_le {M : zM} {nt np u v : Nat} (h : (∀ j, j < u → ∃ d, trx np d s5 (M.1 (19 + 2 * (M.1 18 j).toNatClampNeg)) (rowT (M.1 145) j)) ∧ (∀ j, j < u → tOK nt np (rowT (M.1 145) j)) ∧ pmF (M.1 18)) (hv : v ≤ u) : (∀ j, j < v → ∃ d, trx np d s5 (M.1 (19 + 2 * (M.1 18 j).toNatClampNeg)) (rowT (M.1 145) j)) ∧ (∀ j, j < v → tOK nt np (rowT (M.1 145) j)) ∧ pmF (M.1 18) := ⟨fun j hj => h.1 j (by omega), fun j hj => h.2.1 j (by omega), h.2.2⟩
def Q7_heed (M : zM) (v : Int32) (r : Int32) (M2 : zM) : Prop := ∃ nt np ah u len, SX M M nt np ah u len ∧ P7_heed M v r M2
theorem q7_heed {l : Launch} {w : zE} (J : zJ w) {M : zM} {v : Int32} (S : Sim M) : zCi l w yX7_heed cX7_heed 3 (some .int) 1 [.ref (w.2.2 0), .int v] M (Q7_heed M v) := by
  obtain ⟨nt, np, ah, u, len, S⟩ := S
  exact zCi_post (fun r M2 h => ⟨nt, np, ah, u, len, S, h⟩) (t7_heed J)
theorem q8_heed {l : Launch} {w : zE} (J : zJ w) {M M2 : zM} {v : Int32} {r : Int32} (h : Q7_heed M v r M2) : zCi l w yX8_heed cX8_heed 3 (some .int) 1 [.ref (w.2.2 138), .int v] M2 (fun r' M3 => Sim M3 ∧ r' = r) := by
  obtain ⟨nt, np, ah, u, len, S, h⟩ := h
  rcases h with ⟨b, rfl, rfl⟩ | ⟨b, rfl, rfl⟩
  · refine zCi_post (fun r' M3 q => ?_) (t8_heed J)
    rcases q with ⟨_, rfl, rfl⟩ | ⟨c, _⟩
    · exact ⟨S.sim, rfl⟩
    · exact absurd b c
  · refine zCi_post (fun r' M3 q => ?_) (t8_heed J)
    rcases q with ⟨c, _⟩ | ⟨_, rfl, rfl⟩
    · exact absurd c b
    · have e : ∀ bb, bb ≠ 2 → bb ≠ 138 → (zs (zs M 2 2 v) 138 5 v).1 bb = M.1 bb := fun bb h0 h1 => by rw [zs_off _ h1, zs_off _ h0]
      have W : WN (zs (zs M 2 2 v) 138 5 v) (zs (zs M 2 2 v) 138 5 v) nt np ah u := WN.mk (S.bd) ⟨(by simp +decide only [zs_g, za_g, false_and, if_true, if_false] <;> exact S.cf.1), (by simp +decide only [zs_g, za_g, false_and, if_true, if_false] <;> exact S.cf.2.1), (by simp +decide only [zs_g, za_g, false_and, if_true, if_false] <;> exact S.cf.2.2.1), (by simp +decide only [zs_g, za_g, false_and, if_true, if_false] <;> exact S.cf.2.2.2.1), (by simp +decide only [zs_g, za_g, false_and, if_true, if_false] <;> exact S.cf.2.2.2.2)⟩ ⟨(by simp +decide only [zs_g, za_g, false_and, if_true, if_false] <;> exact S.rf.1), (by simp +decide only [zs_g, za_g, false_and, if_true, if_false] <;> exact S.rf.2.1), (by simp +decide only [zs_g, za_g, false_and, if_true, if_false] <;> exact S.rf.2.2)⟩ ⟨(by rw [e 3 (by decide) (by decide), e 139 (by decide) (by decide)]; exact S.th), (by rw [e 14 (by decide) (by decide), e 140 (by decide) (by decide)]; exact S.pe)⟩ (by rw [e 16 (by decide) (by decide), e 141 (by decide) (by decide)]; exact S.tr) (S.1.past (e 18 (by decide) (by decide)) (fun k hk => e _ (by omega) (by omega)) (e 145 (by decide) (by decide))) ⟨(by rw [e 139 (by decide) (by decide)]; exact S.kd.1), (by rw [e 139 (by decide) (by decide)]; exact S.kd.2.1), (by rw [e 140 (by decide) (by decide)]; exact S.kd.2.2)⟩ ⟨(by rw [e 141 (by decide) (by decide)]; exact S.tk), (by rw [e 141 (by decide) (by decide)]; exact S.ta)⟩
      have SS := S.world (M3 := zs (zs M 2 2 v) 138 5 v) (fun bb h1 h2 h3 => e bb (by omega) (by omega)) (fun bb h1 => e bb (by omega) (by omega)) (fun k hk => by rcases hk with rfl | rfl <;> simp +decide only [zs_g, za_g, false_and, if_true, if_false]) (by simp +decide only [zs_g, za_g, false_and, if_true, if_false] <;> exact S.2.1) rfl W
      exact ⟨SS.sim, by simp +decide only [zs_g, za_g, false_and, if_true, if_false] <;> exact S.cf.2.2.1.symm⟩
def Q7_well (M : zM) (v : Int32) (r : Int32) (M2 : zM) : Prop := ∃ nt np ah u len, SX M M nt np ah u len ∧ P7_well M v r M2
theorem q7_well {l : Launch} {w : zE} (J : zJ w) {M : zM} {v : Int32} (S : Sim M) : zCi l w yX7_well cX7_well 3 (some .int) 1 [.ref (w.2.2 0), .int v] M (Q7_well M v) := by
  obtain ⟨nt, np, ah, u, len, S⟩ := S
  exact zCi_post (fun r M2 h => ⟨nt, np, ah, u, len, S, h⟩) (t7_well J)
theorem q8_well {l : Launch} {w : zE} (J : zJ w) {M M2 : zM} {v : Int32} {r : Int32} (h : Q7_well M v r M2) : zCi l w yX8_well cX8_well 3 (some .int) 1 [.ref (w.2.2 138), .int v] M2 (fun r' M3 => Sim M3 ∧ r' = r) := by
  obtain ⟨nt, np, ah, u, len, S, h⟩ := h
  rcases h with ⟨b, rfl, rfl⟩ | ⟨b, rfl, rfl⟩
  · refine zCi_post (fun r' M3 q => ?_) (t8_well J)
    rcases q with ⟨_, rfl, rfl⟩ | ⟨c, _⟩
    · exact ⟨S.sim, rfl⟩
    · exact absurd b c
  · refine zCi_post (fun r' M3 q => ?_) (t8_well J)
    rcases q with ⟨c, _⟩ | ⟨_, rfl, rfl⟩
    · exact absurd c b
    · have e : ∀ bb, bb ≠ 2 → bb ≠ 138 → (zs (zs M 2 3 v) 138 6 v).1 bb = M.1 bb := fun bb h0 h1 => by rw [zs_off _ h1, zs_off _ h0]
      have W : WN (zs (zs M 2 3 v) 138 6 v) (zs (zs M 2 3 v) 138 6 v) nt np ah u := WN.mk (S.bd) ⟨(by simp +decide only [zs_g, za_g, false_and, if_true, if_false] <;> exact S.cf.1), (by simp +decide only [zs_g, za_g, false_and, if_true, if_false] <;> exact S.cf.2.1), (by simp +decide only [zs_g, za_g, false_and, if_true, if_false] <;> exact S.cf.2.2.1), (by simp +decide only [zs_g, za_g, false_and, if_true, if_false] <;> exact S.cf.2.2.2.1), (by simp +decide only [zs_g, za_g, false_and, if_true, if_false] <;> exact S.cf.2.2.2.2)⟩ ⟨(by simp +decide only [zs_g, za_g, false_and, if_true, if_false] <;> exact S.rf.1), (by simp +decide only [zs_g, za_g, false_and, if_true, if_false] <;> exact S.rf.2.1), (by simp +decide only [zs_g, za_g, false_and, if_true, if_false] <;> exact S.rf.2.2)⟩ ⟨(by rw [e 3 (by decide) (by decide), e 139 (by decide) (by decide)]; exact S.th), (by rw [e 14 (by decide) (by decide), e 140 (by decide) (by decide)]; exact S.pe)⟩ (by rw [e 16 (by decide) (by decide), e 141 (by decide) (by decide)]; exact S.tr) (S.1.past (e 18 (by decide) (by decide)) (fun k hk => e _ (by omega) (by omega)) (e 145 (by decide) (by decide))) ⟨(by rw [e 139 (by decide) (by decide)]; exact S.kd.1), (by rw [e 139 (by decide) (by decide)]; exact S.kd.2.1), (by rw [e 140 (by decide) (by decide)]; exact S.kd.2.2)⟩ ⟨(by rw [e 141 (by decide) (by decide)]; exact S.tk), (by rw [e 141 (by decide) (by decide)]; exact S.ta)⟩
      have SS := S.world (M3 := zs (zs M 2 3 v) 138 6 v) (fun bb h1 h2 h3 => e bb (by omega) (by omega)) (fun bb h1 => e bb (by omega) (by omega)) (fun k hk => by rcases hk with rfl | rfl <;> simp +decide only [zs_g, za_g, false_and, if_true, if_false]) (by simp +decide only [zs_g, za_g, false_and, if_true, if_false] <;> exact S.2.1) rfl W
      exact ⟨SS.sim, by simp +decide only [zs_g, za_g, false_and, if_true, if_false] <;> exact S.cf.2.2.2.1.symm⟩
def Q7_again (M : zM) (r : Int32) (M2 : zM) : Prop := ∃ nt np ah u len, SX M M nt np ah u len ∧ P7_again M r M2
theorem q7_again {l : Launch} {w : zE} (J : zJ w) {M : zM} (S : Sim M) : zCi l w yX7_again cX7_again 2 (some .int) 0 [.ref (w.2.2 0)] M (Q7_again M) := by
  obtain ⟨nt, np, ah, u, len, S⟩ := S
  exact zCi_post (fun r M2 h => ⟨nt, np, ah, u, len, S, h⟩) (t7_again J)
theorem q8_again {l : Launch} {w : zE} (J : zJ w) {M M2 : zM} {r : Int32} (h : Q7_again M r M2) : zCi l w yX8_again cX8_again 2 (some .int) 0 [.ref (w.2.2 138)] M2 (fun r' M3 => Sim M3 ∧ r' = r) := by
  obtain ⟨nt, np, ah, u, len, S, h⟩ := h
  obtain ⟨rfl, rfl⟩ := h
  refine zCi_post (fun r' M3 q => ?_) (t8_again J)
  obtain ⟨rfl, rfl⟩ := q
  obtain ⟨d, t⟩ := S.tr
  have k1 : zs (zs M 16 3 0) 141 3 0 = za (za M 16 (va_up (M.1 16) 3 0)) 141 (va_up (M.1 141) 3 0) := by rw [zs_za, zs_za, za_off _ (by decide)]
  rw [k1]
  have e : ∀ bb, bb ≠ 16 → bb ≠ 141 → (za (za M 16 (va_up (M.1 16) 3 0)) 141 (va_up (M.1 141) 3 0)).1 bb = M.1 bb := fun bb h0 h1 => by rw [za_off _ h1, za_off _ h0]
  have W : WN (za (za M 16 (va_up (M.1 16) 3 0)) 141 (va_up (M.1 141) 3 0)) (za (za M 16 (va_up (M.1 16) 3 0)) 141 (va_up (M.1 141) 3 0)) nt np 0 u := WN.mk (⟨S.bd.1, S.bd.2.1, by omega, S.bd.2.2.2⟩) ⟨(by simp +decide only [zs_g, za_g, false_and, if_true, if_false] <;> exact S.cf.1), (by simp +decide only [zs_g, za_g, false_and, if_true, if_false] <;> exact S.cf.2.1), (by simp +decide only [zs_g, za_g, false_and, if_true, if_false] <;> exact S.cf.2.2.1), (by simp +decide only [zs_g, za_g, false_and, if_true, if_false] <;> exact S.cf.2.2.2.1), (by simp +decide only [zs_g, za_g, false_and, if_true, if_false] <;> exact S.cf.2.2.2.2)⟩ ⟨(by simp +decide only [zs_g, za_g, false_and, if_true, if_false] <;> exact S.rf.1), (by simp +decide only [zs_g, za_g, false_and, if_true, if_false] <;> exact S.rf.2.1), (by simp +decide only [zs_g, za_g, false_and, if_true, if_false] <;> exact S.rf.2.2)⟩ ⟨(by rw [e 3 (by decide) (by decide), e 139 (by decide) (by decide)]; exact S.th), (by rw [e 14 (by decide) (by decide), e 140 (by decide) (by decide)]; exact S.pe)⟩ (by rw [za_off _ (by decide), za_at, za_at]; exact ⟨d, trx_3 t 0⟩) (S.1.past (e 18 (by decide) (by decide)) (fun k hk => e _ (by omega) (by omega)) (e 145 (by decide) (by decide))) ⟨(by rw [e 139 (by decide) (by decide)]; exact S.kd.1), (by rw [e 139 (by decide) (by decide)]; exact S.kd.2.1), (by rw [e 140 (by decide) (by decide)]; exact S.kd.2.2)⟩ ⟨(by rw [za_at]; exact tOK_3 (b := 0) S.tk (by omega)), (by rw [za_at, va_up_self]; rfl)⟩
  have SS := S.world (M3 := za (za M 16 (va_up (M.1 16) 3 0)) 141 (va_up (M.1 141) 3 0)) (fun bb h1 h2 h3 => e bb (by omega) (by omega)) (fun bb h1 => e bb (by omega) (by omega)) (fun k hk => by rcases hk with rfl | rfl <;> simp +decide only [zs_g, za_g, false_and, if_true, if_false]) (by simp +decide only [zs_g, za_g, false_and, if_true, if_false] <;> exact S.2.1) rfl W
  exact ⟨SS.sim, by rw [zs_off _ (by decide)]; exact t.2.2.2.1.symm⟩
def Q7_take (M : zM) (x : Int32) (r : Int32) (M2 : zM) : Prop := ∃ nt np ah u len, SX M M nt np ah u len ∧ P7_take M np x r M2
theorem q7_take {l : Launch} {w : zE} (J : zJ w) {M : zM} {x : Int32} (S : Sim M) : zCi l w yX7_take cX7_take 3 (some .int) 2 [.ref (w.2.2 0), .int x] M (Q7_take M x) := by
  obtain ⟨nt, np, ah, u, len, S⟩ := S
  exact zCi_post (fun r M2 h => ⟨nt, np, ah, u, len, S, h⟩) (t7_take J S.cf.2.1 S.bd.2.1)
theorem q8_take {l : Launch} {w : zE} (J : zJ w) {M M2 : zM} {x : Int32} {r : Int32} (h : Q7_take M x r M2) : zCi l w yX8_take cX8_take 3 (some .int) 2 [.ref (w.2.2 138), .int x] M2 (fun r' M3 => Sim M3 ∧ r' = r) := by
  obtain ⟨nt, np, ah, u, len, S, h⟩ := h
  obtain ⟨d, t⟩ := S.tr
  have hh : takHad (M.1 16) np x ↔ takR (M.1 141) np x := by
    unfold takHad takR
    rw [t.1, whoF_none S.bd.2.1]
    constructor
    · rintro ⟨a1, a2, a3⟩
      refine ⟨a1, Classical.byContradiction fun z => a3 ⟨fun y => a2 (t.1.symm.trans y).symm, fun p hp y => z ⟨p, hp, (t.2.2.2.2.2 p hp).symm.trans y⟩⟩⟩
    · rintro ⟨a1, p, hp, a2⟩
      refine ⟨a1, fun y => ?_, fun y => y.2 p hp ((t.2.2.2.2.2 p hp).trans a2)⟩
      exact a1 (y.trans (S.tk.2.1.1 p hp (a2.trans y)))
  rcases h with ⟨b, rfl, rfl⟩ | ⟨b, c, rfl, rfl⟩ | ⟨b, c, rfl, rfl⟩
  · refine zCi_post (fun r' M3 q => ?_) (t8_take J S.rf.1 S.bd.1 S.rf.2.1 S.bd.2.1)
    rw [S.cf.1] at b
    unfold P8_take at q
    rw [S.rf.1] at q
    rcases q with ⟨_, rfl, rfl⟩ | ⟨z, _⟩ | ⟨z, _⟩
    · exact ⟨S.sim, rfl⟩
    · exact absurd b z
    · exact absurd b z
  · refine zCi_post (fun r' M3 q => ?_) (t8_take J S.rf.1 S.bd.1 S.rf.2.1 S.bd.2.1)
    rw [S.cf.1] at b
    unfold P8_take at q
    rw [S.rf.1] at q
    rcases q with ⟨z, _⟩ | ⟨_, _, rfl, rfl⟩ | ⟨_, z, _⟩
    · exact absurd z b
    · exact ⟨S.sim, rfl⟩
    · exact absurd (hh.mp c) z
  · have S2 : SX M (zs (zs M 16 0 x) 16 1 0) nt np ah u len := S.B (fun b hb => by rw [zs_off _ (by omega), zs_off _ (by omega)]) rfl
    refine zCi_post (fun r' M3 q => ?_) (t8_take J S2.rf.1 S2.bd.1 S2.rf.2.1 S2.bd.2.1)
    rw [S.cf.1] at b
    have e141 : (zs (zs M 16 0 x) 16 1 0).1 141 = M.1 141 := by rw [zs_off _ (by decide), zs_off _ (by decide)]
    unfold P8_take at q
    rw [S2.rf.1, e141] at q
    rcases q with ⟨z, _⟩ | ⟨_, z, _⟩ | ⟨_, z, rfl, rfl⟩
    · exact absurd z b
    · exact absurd (hh.mpr z) c
    have hx : vx nt x := by
      by_cases y : x = -4
      · exact Or.inl y
      · obtain ⟨j, hj, y2⟩ := n_in (n := nt) (Classical.byContradiction fun z => b ⟨y, z⟩) (by have := S.bd.1; omega)
        exact Or.inr ⟨j, hj, y2⟩
    have hn : ∀ p, p < np → M.1 141 (5 + p) = x → x = -4 := fun p hp y => Classical.byContradiction fun y2 => z ⟨y2, p, hp, y⟩
    have k1 : zs (zs (zs (zs M 16 0 x) 16 1 0) 141 0 x) 141 1 0 = za (za M 16 (va_up (va_up (M.1 16) 0 x) 1 0)) 141 (va_up (va_up (M.1 141) 0 x) 1 0) := by
      simp only [zs_za, za_at, za_za, za_off _ (show 141 ≠ 16 by decide)]
    rw [k1]
    have e : ∀ bb, bb ≠ 16 → bb ≠ 141 → (za (za M 16 (va_up (va_up (M.1 16) 0 x) 1 0)) 141 (va_up (va_up (M.1 141) 0 x) 1 0)).1 bb = M.1 bb := fun bb h0 h1 => by rw [za_off _ h1, za_off _ h0]
    have W : WN (za (za M 16 (va_up (va_up (M.1 16) 0 x) 1 0)) 141 (va_up (va_up (M.1 141) 0 x) 1 0)) (za (za M 16 (va_up (va_up (M.1 16) 0 x) 1 0)) 141 (va_up (va_up (M.1 141) 0 x) 1 0)) nt np ah u := WN.mk (S.bd) ⟨(by simp +decide only [zs_g, za_g, false_and, if_true, if_false] <;> exact S.cf.1), (by simp +decide only [zs_g, za_g, false_and, if_true, if_false] <;> exact S.cf.2.1), (by simp +decide only [zs_g, za_g, false_and, if_true, if_false] <;> exact S.cf.2.2.1), (by simp +decide only [zs_g, za_g, false_and, if_true, if_false] <;> exact S.cf.2.2.2.1), (by simp +decide only [zs_g, za_g, false_and, if_true, if_false] <;> exact S.cf.2.2.2.2)⟩ ⟨(by simp +decide only [zs_g, za_g, false_and, if_true, if_false] <;> exact S.rf.1), (by simp +decide only [zs_g, za_g, false_and, if_true, if_false] <;> exact S.rf.2.1), (by simp +decide only [zs_g, za_g, false_and, if_true, if_false] <;> exact S.rf.2.2)⟩ ⟨(by rw [e 3 (by decide) (by decide), e 139 (by decide) (by decide)]; exact S.th), (by rw [e 14 (by decide) (by decide), e 140 (by decide) (by decide)]; exact S.pe)⟩ (by rw [za_off _ (by decide), za_at, za_at]; exact ⟨d, trx_take t⟩) (S.1.past (e 18 (by decide) (by decide)) (fun k hk => e _ (by omega) (by omega)) (e 145 (by decide) (by decide))) ⟨(by rw [e 139 (by decide) (by decide)]; exact S.kd.1), (by rw [e 139 (by decide) (by decide)]; exact S.kd.2.1), (by rw [e 140 (by decide) (by decide)]; exact S.kd.2.2)⟩ ⟨(by rw [za_at]; exact S.tk.take hx hn), (by rw [za_at, va_up_ne _ _ (by decide), va_up_ne _ _ (by decide)]; exact S.ta)⟩
    have SS := S.world (M3 := za (za M 16 (va_up (va_up (M.1 16) 0 x) 1 0)) 141 (va_up (va_up (M.1 141) 0 x) 1 0)) (fun bb h1 h2 h3 => e bb (by omega) (by omega)) (fun bb h1 => e bb (by omega) (by omega)) (fun k hk => by rcases hk with rfl | rfl <;> simp +decide only [zs_g, za_g, false_and, if_true, if_false]) (by simp +decide only [zs_g, za_g, false_and, if_true, if_false] <;> exact S.2.1) rfl W
    exact ⟨SS.sim, t.1.symm⟩
def Q7_move (M : zM) (p : Int32) (m : Int32) (r : Int32) (M2 : zM) : Prop := ∃ nt np ah u len, SX M M nt np ah u len ∧ P7_move M p m r M2
theorem q7_move {l : Launch} {w : zE} (J : zJ w) {M : zM} {p : Int32} {m : Int32} (S : Sim M) : zCi l w yX7_move cX7_move 4 (some .int) 1 [.ref (w.2.2 0), .int p, .int m] M (Q7_move M p m) := by
  obtain ⟨nt, np, ah, u, len, S⟩ := S
  exact zCi_post (fun r M2 h => ⟨nt, np, ah, u, len, S, h⟩) (t7_move J (by rw [S.cf.2.1]; exact nI_le (b := 8) S.bd.2.1 (by decide)))
theorem q8_move {l : Launch} {w : zE} (J : zJ w) {M M2 : zM} {p : Int32} {m : Int32} {r : Int32} (h : Q7_move M p m r M2) : zCi l w yX8_move cX8_move 4 (some .int) 2 [.ref (w.2.2 138), .int p, .int m] M2 (fun r' M3 => Sim M3 ∧ r' = r) := by
  obtain ⟨nt, np, ah, u, len, S, h⟩ := h
  have h8 := S.bd.2.1
  unfold P7_move at h
  rw [S.cf.2.1] at h
  rcases h with ⟨b, c, rfl, rfl⟩ | ⟨b, rfl, rfl⟩
  · have S2 : SX M (zs M 14 (2 * p.toNatClampNeg) m) nt np ah u len := S.B (fun b hb => zs_off _ (by omega)) rfl
    refine zCi_post (fun r' M3 q => ?_) (t8_move J S2.rf.2.1 S2.bd.2.1)
    unfold P8_move at q
    rw [S2.rf.2.1] at q
    rcases q with ⟨_, _, rfl, rfl⟩ | ⟨z, _⟩
    · have hp : p.toNatClampNeg < np := by
        obtain ⟨j, hj, rfl⟩ := n_in b (by omega)
        rw [nI_clamp (by omega)]; exact hj
      generalize p.toNatClampNeg = j at hp
      have k1 : zs (zs M 14 (2 * j) m) 140 (2 * j) m = za (za M 14 (va_up (M.1 14) (2 * j) m)) 140 (va_up (M.1 140) (2 * j) m) := by rw [zs_za, zs_za, za_off _ (by decide)]
      rw [k1]
      have e : ∀ bb, bb ≠ 14 → bb ≠ 140 → (za (za M 14 (va_up (M.1 14) (2 * j) m)) 140 (va_up (M.1 140) (2 * j) m)).1 bb = M.1 bb := fun bb h0 h1 => by rw [za_off _ h1, za_off _ h0]
      have W : WN (za (za M 14 (va_up (M.1 14) (2 * j) m)) 140 (va_up (M.1 140) (2 * j) m)) (za (za M 14 (va_up (M.1 14) (2 * j) m)) 140 (va_up (M.1 140) (2 * j) m)) nt np ah u := WN.mk (S.bd) ⟨(by simp +decide only [zs_g, za_g, false_and, if_true, if_false] <;> exact S.cf.1), (by simp +decide only [zs_g, za_g, false_and, if_true, if_false] <;> exact S.cf.2.1), (by simp +decide only [zs_g, za_g, false_and, if_true, if_false] <;> exact S.cf.2.2.1), (by simp +decide only [zs_g, za_g, false_and, if_true, if_false] <;> exact S.cf.2.2.2.1), (by simp +decide only [zs_g, za_g, false_and, if_true, if_false] <;> exact S.cf.2.2.2.2)⟩ ⟨(by simp +decide only [zs_g, za_g, false_and, if_true, if_false] <;> exact S.rf.1), (by simp +decide only [zs_g, za_g, false_and, if_true, if_false] <;> exact S.rf.2.1), (by simp +decide only [zs_g, za_g, false_and, if_true, if_false] <;> exact S.rf.2.2)⟩ ⟨(by rw [e 3 (by decide) (by decide), e 139 (by decide) (by decide)]; exact S.th), (by rw [za_off _ (by decide), za_at, za_at]; exact peE_up S.pe)⟩ (by rw [e 16 (by decide) (by decide), e 141 (by decide) (by decide)]; exact S.tr) (S.1.past (e 18 (by decide) (by decide)) (fun k hk => e _ (by omega) (by omega)) (e 145 (by decide) (by decide))) ⟨(by rw [e 139 (by decide) (by decide)]; exact S.kd.1), (by rw [e 139 (by decide) (by decide)]; exact S.kd.2.1), (by rw [za_at]; exact mOK_up S.kd.2.2)⟩ ⟨(by rw [e 141 (by decide) (by decide)]; exact S.tk), (by rw [e 141 (by decide) (by decide)]; exact S.ta)⟩
      have SS := S.world (M3 := za (za M 14 (va_up (M.1 14) (2 * j) m)) 140 (va_up (M.1 140) (2 * j) m)) (fun bb h1 h2 h3 => e bb (by omega) (by omega)) (fun bb h1 => e bb (by omega) (by omega)) (fun k hk => by rcases hk with rfl | rfl <;> simp +decide only [zs_g, za_g, false_and, if_true, if_false]) (by simp +decide only [zs_g, za_g, false_and, if_true, if_false] <;> exact S.2.1) rfl W
      exact ⟨SS.sim, by rw [zs_off _ (by decide)]; exact (S.pe _ (by omega)).symm⟩
    · exact absurd ⟨b, c⟩ z
  · refine zCi_post (fun r' M3 q => ?_) (t8_move J S.rf.2.1 S.bd.2.1)
    unfold P8_move at q
    rw [S.rf.2.1] at q
    rcases q with ⟨z1, z2, _⟩ | ⟨_, rfl, rfl⟩
    · exact absurd ⟨z1, z2⟩ b
    · exact ⟨S.sim, rfl⟩
def Q7_thing (M : zM) (a : Int32) (b : Int32) (c : Int32) (d : Int32) (r : Int32) (M2 : zM) : Prop := ∃ nt np ah u len, SX M M nt np ah u len ∧ P7_thing M nt a b c d r M2
theorem q7_thing {l : Launch} {w : zE} (J : zJ w) {M : zM} {a : Int32} {b : Int32} {c : Int32} {d : Int32} (S : Sim M) : zCi l w yX7_thing cX7_thing 5 (some .int) 2 [.ref (w.2.2 0), .int a, .int b, .int c, .int d] M (Q7_thing M a b c d) := by
  obtain ⟨nt, np, ah, u, len, S⟩ := S
  exact zCi_post (fun r M2 h => ⟨nt, np, ah, u, len, S, h⟩) (t7_thing J S.cf.1 S.bd.1)
theorem q8_thing {l : Launch} {w : zE} (J : zJ w) {M M2 : zM} {a : Int32} {b : Int32} {c : Int32} {d : Int32} {r : Int32} (h : Q7_thing M a b c d r M2) : zCi l w yX8_thing cX8_thing 5 (some .int) 1 [.ref (w.2.2 138), .int a, .int b, .int c, .int d] M2 (fun r' M3 => Sim M3 ∧ r' = r) := by
  obtain ⟨nt, np, ah, u, len, S, h⟩ := h
  rcases h with ⟨y, rfl, rfl⟩ | ⟨y, y2, rfl, rfl⟩ | ⟨y, y2, rfl, rfl⟩
  · refine zCi_post (fun r' M3 q => ?_) (t8_thing J S.rf.1 S.bd.1)
    rcases q with ⟨_, rfl, rfl⟩ | ⟨z, _⟩ | ⟨z, _⟩
    · exact ⟨S.sim, rfl⟩
    · exact absurd y z
    · exact absurd y z
  · refine zCi_post (fun r' M3 q => ?_) (t8_thing J S.rf.1 S.bd.1)
    rcases q with ⟨z, _⟩ | ⟨_, _, rfl, rfl⟩ | ⟨_, z, _⟩
    · exact absurd z y
    · exact ⟨S.sim, rfl⟩
    · omega
  · have S2 : SX M (zs (za (zs M 1 3 0) 3 (setF (M.1 3) nt a b c d)) 2 0 (nI (nt + 1))) nt np ah u len := S.B (fun bb hb => by rw [zs_off _ (by omega), za_off _ (by omega), zs_off _ (by omega)]) rfl
    refine zCi_post (fun r' M3 q => ?_) (t8_thing J S2.rf.1 S2.bd.1)
    rcases q with ⟨z, _⟩ | ⟨_, z, _⟩ | ⟨_, _, rfl, rfl⟩
    · exact absurd z y
    · omega
    have g1 : ¬ (a < 0 ∨ 3 < a) := fun z => y (Or.inl z)
    have g2 : ¬ (b < 0 ∨ 99 < b) := fun z => y (Or.inr (Or.inl z))
    have k1 : zs (zs (za (zs (za (zs M 1 3 0) 3 (setF (M.1 3) nt a b c d)) 2 0 (nI (nt + 1))) 139 (setF ((zs (za (zs M 1 3 0) 3 (setF (M.1 3) nt a b c d)) 2 0 (nI (nt + 1))).1 139) nt a b c d)) 138 0 (nI (nt + 1))) 138 20 0 = za (zs (zs (za (zs (zs M 1 3 0) 2 0 (nI (nt + 1))) 3 (setF (M.1 3) nt a b c d)) 138 20 0) 138 0 (nI (nt + 1))) 139 (setF (M.1 139) nt a b c d) := by
      rw [show (zs (za (zs M 1 3 0) 3 (setF (M.1 3) nt a b c d)) 2 0 (nI (nt + 1))).1 139 = M.1 139 from by rw [zs_off _ (by decide), za_off _ (by decide), zs_off _ (by decide)]]
      refine zM_ext (fun bb => funext fun oo => ?_) rfl
      simp only [zs_g, za_g]
      repeat' split
      all_goals first | rfl | omega | (subst_vars; rfl)
    rw [k1]
    have e : ∀ bb, bb ≠ 1 → bb ≠ 2 → bb ≠ 3 → bb ≠ 138 → bb ≠ 139 → (za (zs (zs (za (zs (zs M 1 3 0) 2 0 (nI (nt + 1))) 3 (setF (M.1 3) nt a b c d)) 138 20 0) 138 0 (nI (nt + 1))) 139 (setF (M.1 139) nt a b c d)).1 bb = M.1 bb := fun bb h0 h1 h2 h3 h4 => by rw [za_off _ h4, zs_off _ h3, zs_off _ h3, za_off _ h2, zs_off _ h1, zs_off _ h0]
    have W : WN (za (zs (zs (za (zs (zs M 1 3 0) 2 0 (nI (nt + 1))) 3 (setF (M.1 3) nt a b c d)) 138 20 0) 138 0 (nI (nt + 1))) 139 (setF (M.1 139) nt a b c d)) (za (zs (zs (za (zs (zs M 1 3 0) 2 0 (nI (nt + 1))) 3 (setF (M.1 3) nt a b c d)) 138 20 0) 138 0 (nI (nt + 1))) 139 (setF (M.1 139) nt a b c d)) (nt + 1) np ah 0 := WN.mk (⟨by omega, S.bd.2.1, S.bd.2.2.1, by omega⟩) ⟨(by simp +decide only [zs_g, za_g, false_and, if_true, if_false] <;> exact rfl), (by simp +decide only [zs_g, za_g, false_and, if_true, if_false] <;> exact S.cf.2.1), (by simp +decide only [zs_g, za_g, false_and, if_true, if_false] <;> exact S.cf.2.2.1), (by simp +decide only [zs_g, za_g, false_and, if_true, if_false] <;> exact S.cf.2.2.2.1), (by simp +decide only [zs_g, za_g, false_and, if_true, if_false] <;> exact rfl)⟩ ⟨(by simp +decide only [zs_g, za_g, false_and, if_true, if_false] <;> exact rfl), (by simp +decide only [zs_g, za_g, false_and, if_true, if_false] <;> exact S.rf.2.1), (by simp +decide only [zs_g, za_g, false_and, if_true, if_false] <;> exact rfl)⟩ ⟨(by rw [za_off _ (by decide), zs_off _ (by decide), zs_off _ (by decide), za_at, za_at]; exact setF_cg S.th a b c d), (by rw [e 14 (by decide) (by decide) (by decide) (by decide) (by decide), e 140 (by decide) (by decide) (by decide) (by decide) (by decide)]; exact S.pe)⟩ (by rw [e 16 (by decide) (by decide) (by decide) (by decide) (by decide), e 141 (by decide) (by decide) (by decide) (by decide) (by decide)]; exact S.tr) ⟨fun j hj => absurd hj (by omega), fun j hj => absurd hj (by omega), by rw [e 18 (by decide) (by decide) (by decide) (by decide) (by decide)]; exact S.pm⟩ ⟨(by rw [za_at]; exact kd_up S.kd.1 g1), (by rw [za_at]; exact w_up S.kd.2.1 g2), (by rw [e 140 (by decide) (by decide) (by decide) (by decide) (by decide)]; exact S.kd.2.2)⟩ ⟨(by rw [e 141 (by decide) (by decide) (by decide) (by decide) (by decide)]; exact S.tk.upT), (by rw [e 141 (by decide) (by decide) (by decide) (by decide) (by decide)]; exact S.ta)⟩
    have SS := S.world (M3 := za (zs (zs (za (zs (zs M 1 3 0) 2 0 (nI (nt + 1))) 3 (setF (M.1 3) nt a b c d)) 138 20 0) 138 0 (nI (nt + 1))) 139 (setF (M.1 139) nt a b c d)) (fun bb h1 h2 h3 => e bb (by omega) (by omega) (by omega) (by omega) (by omega)) (fun bb h1 => e bb (by omega) (by omega) (by omega) (by omega) (by omega)) (fun k hk => by rcases hk with rfl | rfl <;> simp +decide only [zs_g, za_g, false_and, if_true, if_false]) (by simp +decide only [zs_g, za_g, false_and, if_true, if_false] <;> exact S.2.1) rfl W
    exact ⟨SS.sim, rfl⟩
def Q7_person (M : zM) (m : Int32) (x : Int32) (g2 : Int32) (r : Int32) (M2 : zM) : Prop := ∃ nt np ah u len, SX M M nt np ah u len ∧ P7_person M np m x g2 r M2
theorem q7_person {l : Launch} {w : zE} (J : zJ w) {M : zM} {m : Int32} {x : Int32} {g2 : Int32} (S : Sim M) : zCi l w yX7_person cX7_person 4 (some .int) 2 [.ref (w.2.2 0), .int m, .int x, .int g2] M (Q7_person M m x g2) := by
  obtain ⟨nt, np, ah, u, len, S⟩ := S
  exact zCi_post (fun r M2 h => ⟨nt, np, ah, u, len, S, h⟩) (t7_person J S.cf.2.1 S.bd.2.1)
theorem q8_person {l : Launch} {w : zE} (J : zJ w) {M M2 : zM} {m : Int32} {x : Int32} {g2 : Int32} {r : Int32} (h : Q7_person M m x g2 r M2) : zCi l w yX8_person cX8_person 4 (some .int) 2 [.ref (w.2.2 138), .int m, .int x, .int g2] M2 (fun r' M3 => Sim M3 ∧ r' = r) := by
  obtain ⟨nt, np, ah, u, len, S, h⟩ := h
  obtain ⟨d, t⟩ := S.tr
  have hh : perHad (M.1 16) np x ↔ perHad (M.1 141) np x := by unfold perHad; rw [whoFF_cg S.bd.2.1 t]
  unfold P7_person at h
  rw [S.cf.1, hh] at h
  rcases h with ⟨y, rfl, rfl⟩ | ⟨y, y2, rfl, rfl⟩ | ⟨y, y2, y3, rfl, rfl⟩ | ⟨y, y2, y3, rfl, rfl⟩
  · refine zCi_post (fun r' M3 q => ?_) (t8_person J S.rf.1 S.bd.1 S.rf.2.1 S.bd.2.1)
    unfold P8_person at q
    rw [S.rf.1] at q
    rcases q with ⟨_, rfl, rfl⟩ | ⟨z, _⟩ | ⟨z, _⟩ | ⟨z, _⟩
    · exact ⟨S.sim, rfl⟩
    · exact absurd y z
    · exact absurd y z
    · exact absurd y z
  · refine zCi_post (fun r' M3 q => ?_) (t8_person J S.rf.1 S.bd.1 S.rf.2.1 S.bd.2.1)
    unfold P8_person at q
    rw [S.rf.1] at q
    rcases q with ⟨z, _⟩ | ⟨_, _, rfl, rfl⟩ | ⟨_, z, _⟩ | ⟨_, z, _⟩
    · exact absurd z y
    · exact ⟨S.sim, rfl⟩
    · exact absurd y2 z
    · exact absurd y2 z
  · refine zCi_post (fun r' M3 q => ?_) (t8_person J S.rf.1 S.bd.1 S.rf.2.1 S.bd.2.1)
    unfold P8_person at q
    rw [S.rf.1] at q
    rcases q with ⟨z, _⟩ | ⟨_, z, _⟩ | ⟨_, _, _, rfl, rfl⟩ | ⟨_, _, z, _⟩
    · exact absurd z y
    · exact absurd z y2
    · exact ⟨S.sim, rfl⟩
    · omega
  · have S2 : SX M (zs (zs (zs (zs (zs M 1 3 0) 14 (2 * np) m) 14 (2 * np + 1) g2) 16 (5 + np) x) 2 1 (nI (np + 1))) nt np ah u len := S.B (fun b hb => by rw [zs_off _ (by omega), zs_off _ (by omega), zs_off _ (by omega), zs_off _ (by omega), zs_off _ (by omega)]) rfl
    refine zCi_post (fun r' M3 q => ?_) (t8_person J S2.rf.1 S2.bd.1 S2.rf.2.1 S2.bd.2.1)
    have e141 : (zs (zs (zs (zs (zs M 1 3 0) 14 (2 * np) m) 14 (2 * np + 1) g2) 16 (5 + np) x) 2 1 (nI (np + 1))).1 141 = M.1 141 := by rw [zs_off _ (by decide), zs_off _ (by decide), zs_off _ (by decide), zs_off _ (by decide), zs_off _ (by decide)]
    unfold P8_person at q
    rw [S2.rf.1, e141] at q
    rcases q with ⟨z, _⟩ | ⟨_, z, _⟩ | ⟨_, _, z, _⟩ | ⟨_, _, _, rfl, rfl⟩
    · exact absurd z y
    · exact absurd z y2
    · omega
    have hx : vx nt x := by
      by_cases z : x = -4
      · exact Or.inl z
      · obtain ⟨j, hj, z2⟩ := n_in (n := nt) (Classical.byContradiction fun z3 => y (Or.inr (Or.inl ⟨z, z3⟩))) (by have := S.bd.1; omega)
        exact Or.inr ⟨j, hj, z2⟩
    have hn : x = -4 ∨ (¬ M.1 141 0 = x ∧ ∀ p, p < np → ¬ M.1 141 (5 + p) = x) := by
      by_cases z : x = -4
      · exact Or.inl z
      · exact Or.inr ((whoF_none S.bd.2.1).mp (Classical.byContradiction fun z2 => y2 ⟨z, z2⟩))
    have g3 : ¬ (g2 < 0 ∨ 20 < g2) := fun z => y (Or.inr (Or.inr z))
    have k1 : zs (zs (zs (zs (zs (zs (zs (zs (zs (zs M 1 3 0) 14 (2 * np) m) 14 (2 * np + 1) g2) 16 (5 + np) x) 2 1 (nI (np + 1))) 140 (2 * np) m) 140 (2 * np + 1) g2) 141 (5 + np) x) 138 1 (nI (np + 1))) 138 20 0 = za (za (za (za (zs (zs (zs (zs M 1 3 0) 2 1 (nI (np + 1))) 138 1 (nI (np + 1))) 138 20 0) 14 (va_up (va_up (M.1 14) (2 * np) m) (2 * np + 1) g2)) 16 (va_up (M.1 16) (5 + np) x)) 140 (va_up (va_up (M.1 140) (2 * np) m) (2 * np + 1) g2)) 141 (va_up (M.1 141) (5 + np) x) := by
      refine zM_ext (fun bb => funext fun oo => ?_) rfl
      by_cases hb : bb = 1 ∨ bb = 2 ∨ bb = 14 ∨ bb = 16 ∨ bb = 138 ∨ bb = 140 ∨ bb = 141
      · rcases hb with rfl | rfl | rfl | rfl | rfl | rfl | rfl <;> simp +decide only [zs_g, za_g, va_g, true_and, false_and, if_true, if_false]
      · simp only [not_or] at hb
        obtain ⟨b1, b2, b3, b4, b5, b6, b7⟩ := hb
        simp only [zs_g, za_g, b1, b2, b3, b4, b5, b6, b7, false_and, if_false]
    rw [k1]
    have e : ∀ bb, bb ≠ 1 → bb ≠ 2 → bb ≠ 14 → bb ≠ 16 → bb ≠ 138 → bb ≠ 140 → bb ≠ 141 → (za (za (za (za (zs (zs (zs (zs M 1 3 0) 2 1 (nI (np + 1))) 138 1 (nI (np + 1))) 138 20 0) 14 (va_up (va_up (M.1 14) (2 * np) m) (2 * np + 1) g2)) 16 (va_up (M.1 16) (5 + np) x)) 140 (va_up (va_up (M.1 140) (2 * np) m) (2 * np + 1) g2)) 141 (va_up (M.1 141) (5 + np) x)).1 bb = M.1 bb := fun bb h0 h1 h2 h3 h4 h5 h6 => by rw [za_off _ h6, za_off _ h5, za_off _ h3, za_off _ h2, zs_off _ h4, zs_off _ h4, zs_off _ h1, zs_off _ h0]
    have W : WN (za (za (za (za (zs (zs (zs (zs M 1 3 0) 2 1 (nI (np + 1))) 138 1 (nI (np + 1))) 138 20 0) 14 (va_up (va_up (M.1 14) (2 * np) m) (2 * np + 1) g2)) 16 (va_up (M.1 16) (5 + np) x)) 140 (va_up (va_up (M.1 140) (2 * np) m) (2 * np + 1) g2)) 141 (va_up (M.1 141) (5 + np) x)) (za (za (za (za (zs (zs (zs (zs M 1 3 0) 2 1 (nI (np + 1))) 138 1 (nI (np + 1))) 138 20 0) 14 (va_up (va_up (M.1 14) (2 * np) m) (2 * np + 1) g2)) 16 (va_up (M.1 16) (5 + np) x)) 140 (va_up (va_up (M.1 140) (2 * np) m) (2 * np + 1) g2)) 141 (va_up (M.1 141) (5 + np) x)) nt (np + 1) ah 0 := WN.mk (⟨S.bd.1, by omega, S.bd.2.2.1, by omega⟩) ⟨(by simp +decide only [zs_g, za_g, false_and, if_true, if_false] <;> exact S.cf.1), (by simp +decide only [zs_g, za_g, false_and, if_true, if_false] <;> exact rfl), (by simp +decide only [zs_g, za_g, false_and, if_true, if_false] <;> exact S.cf.2.2.1), (by simp +decide only [zs_g, za_g, false_and, if_true, if_false] <;> exact S.cf.2.2.2.1), (by simp +decide only [zs_g, za_g, false_and, if_true, if_false] <;> exact rfl)⟩ ⟨(by simp +decide only [zs_g, za_g, false_and, if_true, if_false] <;> exact S.rf.1), (by simp +decide only [zs_g, za_g, false_and, if_true, if_false] <;> exact rfl), (by simp +decide only [zs_g, za_g, false_and, if_true, if_false] <;> exact rfl)⟩ ⟨(by rw [e 3 (by decide) (by decide) (by decide) (by decide) (by decide) (by decide) (by decide), e 139 (by decide) (by decide) (by decide) (by decide) (by decide) (by decide) (by decide)]; exact S.th), (by rw [za_off _ (by decide), za_off _ (by decide), za_off _ (by decide), za_at, za_off _ (by decide), za_at]; exact peE_new S.pe)⟩ (by rw [za_off _ (by decide), za_off _ (by decide), za_at, za_at]; exact ⟨d, trx_new t⟩) ⟨fun j hj => absurd hj (by omega), fun j hj => absurd hj (by omega), by rw [e 18 (by decide) (by decide) (by decide) (by decide) (by decide) (by decide) (by decide)]; exact S.pm⟩ ⟨(by rw [e 139 (by decide) (by decide) (by decide) (by decide) (by decide) (by decide) (by decide)]; exact S.kd.1), (by rw [e 139 (by decide) (by decide) (by decide) (by decide) (by decide) (by decide) (by decide)]; exact S.kd.2.1), (by rw [za_off _ (by decide), za_at]; exact m_up S.kd.2.2 g3)⟩ ⟨(by rw [za_at]; exact S.tk.person y3 hx hn), (by rw [za_at, va_up_ne _ _ (by omega)]; exact S.ta)⟩
    have SS := S.world (M3 := za (za (za (za (zs (zs (zs (zs M 1 3 0) 2 1 (nI (np + 1))) 138 1 (nI (np + 1))) 138 20 0) 14 (va_up (va_up (M.1 14) (2 * np) m) (2 * np + 1) g2)) 16 (va_up (M.1 16) (5 + np) x)) 140 (va_up (va_up (M.1 140) (2 * np) m) (2 * np + 1) g2)) 141 (va_up (M.1 141) (5 + np) x)) (fun bb h1 h2 h3 => e bb (by omega) (by omega) (by omega) (by omega) (by omega) (by omega) (by omega)) (fun bb h1 => e bb (by omega) (by omega) (by omega) (by omega) (by omega) (by omega) (by omega)) (fun k hk => by rcases hk with rfl | rfl <;> simp +decide only [zs_g, za_g, false_and, if_true, if_false]) (by simp +decide only [zs_g, za_g, false_and, if_true, if_false] <;> exact S.2.1) rfl W
    exact ⟨SS.sim, rfl⟩
def Q7_undo (M : zM) (r : Int32) (M2 : zM) : Prop := ∃ nt np ah u len, SX M M nt np ah u len ∧ P7_undo M u r M2
theorem q7_undo {l : Launch} {w : zE} (J : zJ w) {M : zM} (S : Sim M) : zCi l w yX7_undo cX7_undo 1 (some .int) 3 [.ref (w.2.2 0)] M (Q7_undo M) := by
  obtain ⟨nt, np, ah, u, len, S⟩ := S
  exact zCi_post (fun r M2 h => ⟨nt, np, ah, u, len, S, h⟩) (t7_undo J S.pm S.cf.2.2.2.2 S.bd.2.2.2)
theorem q8_undo {l : Launch} {w : zE} (J : zJ w) {M M2 : zM} {r : Int32} (h : Q7_undo M r M2) : zCi l w yX8_undo cX8_undo 2 (some .int) 0 [.ref (w.2.2 138)] M2 (fun r' M3 => Sim M3 ∧ r' = r) := by
  obtain ⟨nt, np, ah, u, len, S, h⟩ := h
  have b4 := S.bd.2.2.2
  rcases h with ⟨y, rfl, rfl⟩ | ⟨j, y, rfl, rfl⟩
  · refine zCi_post (fun r' M3 q => ?_) (t8_undo J S.rf.2.2 S.bd.2.2.2)
    rcases q with ⟨_, rfl, rfl⟩ | ⟨j, z, _⟩
    · exact ⟨S.sim, rfl⟩
    · omega
  · have S2 : SX M (za (zs M 1 3 (nI j)) 16 (M.1 (19 + 2 * (M.1 18 j).toNatClampNeg))) nt np ah u len := S.B (fun b hb => by rw [za_off _ (by omega), zs_off _ (by omega)]) rfl
    refine zCi_post (fun r' M3 q => ?_) (t8_undo J S2.rf.2.2 S2.bd.2.2.2)
    rcases q with ⟨z, _⟩ | ⟨j2, z, rfl, rfl⟩
    · omega
    obtain rfl : j2 = j := by omega
    have k1 : za (zs (za (zs M 1 3 (nI j2)) 16 (M.1 (19 + 2 * (M.1 18 j2).toNatClampNeg))) 138 20 (nI j2)) 141 (fun q => (za (zs M 1 3 (nI j2)) 16 (M.1 (19 + 2 * (M.1 18 j2).toNatClampNeg))).1 145 (14 * j2 + q)) = za (za (zs (zs M 1 3 (nI j2)) 138 20 (nI j2)) 16 (M.1 (19 + 2 * (M.1 18 j2).toNatClampNeg))) 141 (rowT (M.1 145) j2) := by
      rw [show (za (zs M 1 3 (nI j2)) 16 (M.1 (19 + 2 * (M.1 18 j2).toNatClampNeg))).1 145 = M.1 145 from by rw [za_off _ (by decide), zs_off _ (by decide)]]
      refine zM_ext (fun bb => funext fun oo => ?_) rfl
      simp only [zs_g, za_g, rowT]
      repeat' split
      all_goals first | rfl | omega | (subst_vars; rfl)
    rw [k1]
    obtain ⟨b, hb, h3⟩ := (S.1.2.2.2.2.2.2.2.2.2 j2 (by omega)).2.2.2
    have e : ∀ bb, bb ≠ 1 → bb ≠ 16 → bb ≠ 138 → bb ≠ 141 → (za (za (zs (zs M 1 3 (nI j2)) 138 20 (nI j2)) 16 (M.1 (19 + 2 * (M.1 18 j2).toNatClampNeg))) 141 (rowT (M.1 145) j2)).1 bb = M.1 bb := fun bb h0 h1 h2 h3 => by rw [za_off _ h3, za_off _ h1, zs_off _ h2, zs_off _ h0]
    have W : WN (za (za (zs (zs M 1 3 (nI j2)) 138 20 (nI j2)) 16 (M.1 (19 + 2 * (M.1 18 j2).toNatClampNeg))) 141 (rowT (M.1 145) j2)) (za (za (zs (zs M 1 3 (nI j2)) 138 20 (nI j2)) 16 (M.1 (19 + 2 * (M.1 18 j2).toNatClampNeg))) 141 (rowT (M.1 145) j2)) nt np b j2 := WN.mk (⟨S.bd.1, S.bd.2.1, hb, by omega⟩) ⟨(by simp +decide only [zs_g, za_g, false_and, if_true, if_false] <;> exact S.cf.1), (by simp +decide only [zs_g, za_g, false_and, if_true, if_false] <;> exact S.cf.2.1), (by simp +decide only [zs_g, za_g, false_and, if_true, if_false] <;> exact S.cf.2.2.1), (by simp +decide only [zs_g, za_g, false_and, if_true, if_false] <;> exact S.cf.2.2.2.1), (by simp +decide only [zs_g, za_g, false_and, if_true, if_false] <;> exact rfl)⟩ ⟨(by simp +decide only [zs_g, za_g, false_and, if_true, if_false] <;> exact S.rf.1), (by simp +decide only [zs_g, za_g, false_and, if_true, if_false] <;> exact S.rf.2.1), (by simp +decide only [zs_g, za_g, false_and, if_true, if_false] <;> exact rfl)⟩ ⟨(by rw [e 3 (by decide) (by decide) (by decide) (by decide), e 139 (by decide) (by decide) (by decide) (by decide)]; exact S.th), (by rw [e 14 (by decide) (by decide) (by decide) (by decide), e 140 (by decide) (by decide) (by decide) (by decide)]; exact S.pe)⟩ (by rw [za_off _ (by decide), za_at, za_at]; exact S.1.2.2.2.2.2.2.1 j2 (by omega)) (past_le (S.1.past (e 18 (by decide) (by decide) (by decide) (by decide)) (fun k hk => e _ (by omega) (by omega) (by omega) (by omega)) (e 145 (by decide) (by decide) (by decide) (by decide))) (by omega)) ⟨(by rw [e 139 (by decide) (by decide) (by decide) (by decide)]; exact S.kd.1), (by rw [e 139 (by decide) (by decide) (by decide) (by decide)]; exact S.kd.2.1), (by rw [e 140 (by decide) (by decide) (by decide) (by decide)]; exact S.kd.2.2)⟩ ⟨(by rw [za_at]; exact S.1.2.2.2.2.2.2.2.2.2 j2 (by omega)), (by rw [za_at]; exact h3)⟩
    have SS := S.world (M3 := za (za (zs (zs M 1 3 (nI j2)) 138 20 (nI j2)) 16 (M.1 (19 + 2 * (M.1 18 j2).toNatClampNeg))) 141 (rowT (M.1 145) j2)) (fun bb h1 h2 h3 => e bb (by omega) (by omega) (by omega) (by omega)) (fun bb h1 => e bb (by omega) (by omega) (by omega) (by omega)) (fun k hk => by rcases hk with rfl | rfl <;> simp +decide only [zs_g, za_g, false_and, if_true, if_false]) (by simp +decide only [zs_g, za_g, false_and, if_true, if_false] <;> exact S.2.1) rfl W
    exact ⟨SS.sim, rfl⟩
def Q7_go (M : zM) (r : Int32) (M2 : zM) : Prop := ∃ nt np ah u len, SX M M nt np ah u len ∧ P7_go M u np r M2
theorem q7_go {l : Launch} {w : zE} (J : zJ w) {M : zM} (S : Sim M) : zCi l w yX7_go cX7_go 1 (some .int) 4 [.ref (w.2.2 0)] M (Q7_go M) := by
  obtain ⟨nt, np, ah, u, len, S⟩ := S
  exact zCi_post (fun r M2 h => ⟨nt, np, ah, u, len, S, h⟩) (t7_go J S.pm S.cf.2.2.2.2 S.bd.2.2.2 S.nt10 S.cf.2.1 S.bd.2.1)
set_option maxRecDepth 20000 in
theorem q8_go {l : Launch} {w : zE} (J : zJ w) {M M2 : zM} {r : Int32} (h : Q7_go M r M2) : zCi l w yX8_go cX8_go 2 (some .int) 6 [.ref (w.2.2 138)] M2 (fun r' M3 => Sim M3 ∧ r' = r) := by
  obtain ⟨nt, np, ah, u, len, S, h⟩ := h
  obtain ⟨d, t⟩ := S.tr
  have e3 : M.1 16 3 = nI ah := t.2.2.2.1.trans S.ta
  have h12 := S.bd.2.2.1
  unfold P7_go at h
  rw [e3] at h
  rcases h with ⟨y, rfl, rfl⟩ | ⟨y, rf, rfl, rfl⟩
  · have y2 : ¬ ah < 12 := fun z => nI_ge (b := 12) z (by decide) y
    refine zCi_post (fun r' M3 q => ?_) (t8_go J S.rok S.rf.2.2 S.bd.2.2.2)
    rcases q with ⟨_, rfl, rfl⟩ | ⟨z, _⟩
    · exact ⟨S.sim, rfl⟩
    · omega
  have y2 : ah < 12 := (nI_ltI (b := 12) (by omega) (by decide)).mp y
  generalize hT1 : (passF (M.1 2) (M.1 3) (M.1 14) np 1 (M.1 16, M.1 17 0)).1 = T1
  have tp : trx np d s5 T1 (passT (rbM (M.1 138)) (M.1 139) (M.1 140) np 1 (M.1 141)) := by
    rw [← hT1, passF_fst]
    exact (pass_cg (S := (M.1 16, 0)) (S' := (M.1 141, 0)) (c := 1) S.bd.1 S.rb S.th S.pe t rfl).1
  obtain ⟨p16, p1, pb, p2, pm', ps', pk'⟩ := go_past S.1 T1 rf
  have e145 : ∀ b, 138 ≤ b → (zt (remF M 1 u) 16 T1 rf).1 b = M.1 b := fun b hb => pb b (by omega) (by omega) (by omega) (by omega) (fun k hk => by omega)
  have S2 : SX M (zt (remF M 1 u) 16 T1 rf) nt np ah u len := S.B e145 (by rw [p2])
  refine zCi_post (fun r' M3 q => ?_) (t8_go J S2.rok S2.rf.2.2 S2.bd.2.2.2)
  rcases q with ⟨z, _⟩ | ⟨_, rf2, rfl, rfl⟩
  · omega
  rw [e145 138 (by omega), e145 139 (by omega), e145 140 (by omega), e145 141 (by omega), e145 145 (by omega), passF_fst]
  generalize zt (remF M 1 u) 16 T1 rf = N at p16 p1 pb p2 pm' ps' pk' e145 S2
  have tok : tOK nt np (passT (rbM (M.1 138)) (M.1 139) (M.1 140) np 1 (M.1 141)) := by
    obtain ⟨a1, a2, a3, _⟩ := S.tk
    obtain ⟨u1, u2⟩ := uq_pass (rb := rbM (M.1 138)) (th := M.1 139) (pe := M.1 140) (c := 1) (S := (M.1 141, 0)) a2 a3
    refine ⟨passF_ok (s := (M.1 141, 0)) a1 _ _ _ (a := ah) S.ta (by omega) (by have := S.bd.2.1; omega), u1, u2, ah + 1, by omega, ?_⟩
    show (passF _ _ _ np 1 (M.1 141, 0)).1 3 = _
    rw [passF_3]
    show M.1 141 3 + 1 = _
    rw [S.ta, nI_1]
  have t3 : passT (rbM (M.1 138)) (M.1 139) (M.1 140) np 1 (M.1 141) 3 = nI (ah + 1) := by
    show (passF _ _ _ np 1 (M.1 141, 0)).1 3 = _
    rw [passF_3]
    show M.1 141 3 + 1 = _
    rw [S.ta, nI_1]
  have sb : T1 4 - M.1 16 4 = passT (rbM (M.1 138)) (M.1 139) (M.1 140) np 1 (M.1 141) 4 - M.1 141 4 := by rw [tp.2.2.2.2.1, t.2.2.2.2.1, sub_sh]
  generalize passT (rbM (M.1 138)) (M.1 139) (M.1 140) np 1 (M.1 141) = T2 at tp tok t3 sb
  refine ⟨?_, sb.symm⟩
  generalize hU : notU (M.1 145) (M.1 141) u = U2 at ps' pk'
  exact go_end S y2 p16 p1 pb p2 pm' ps' pk' tp tok t3
def Q7_type (M : zM) (c : Int32) (r : Int32) (M2 : zM) : Prop := ∃ nt np ah u len, SX M M nt np ah u len ∧ P7_type M len c r M2
theorem q7_type {l : Launch} {w : zE} (J : zJ w) {M : zM} {c : Int32} (S : Sim M) : zCi l w yX7_type cX7_type 2 (some .int) 0 [.ref (w.2.2 0), .int c] M (Q7_type M c) := by
  obtain ⟨nt, np, ah, u, len, S⟩ := S
  exact zCi_post (fun r M2 h => ⟨nt, np, ah, u, len, S, h⟩) (t7_type J S.2.2.2.1.1 S.2.2.2.1.2.2.1)
theorem q8_type {l : Launch} {w : zE} (J : zJ w) {M M2 : zM} {c : Int32} {r : Int32} (h : Q7_type M c r M2) : zCi l w yX8_type cX8_type 2 (some .int) 1 [.ref (w.2.2 138), .int c] M2 (fun r' M3 => Sim M3 ∧ r' = r) := by
  obtain ⟨nt, np, ah, u, len, S, h⟩ := h
  have h120 := S.2.2.2.1.2.2.1
  rcases h with ⟨y, rfl, rfl⟩ | ⟨y, y2, rfl, rfl⟩ | ⟨y, y2, rfl, rfl⟩
  · refine zCi_post (fun r' M3 q => ?_) (t8_type J S.2.2.2.1.2.1 h120)
    rcases q with ⟨_, rfl, rfl⟩ | ⟨z, _⟩ | ⟨z, _⟩
    · exact ⟨S.sim, rfl⟩
    · exact absurd y z
    · exact absurd y z
  · refine zCi_post (fun r' M3 q => ?_) (t8_type J S.2.2.2.1.2.1 h120)
    rcases q with ⟨z, _⟩ | ⟨_, _, rfl, rfl⟩ | ⟨_, z, _⟩
    · exact absurd z y
    · exact ⟨S.sim, rfl⟩
    · omega
  have S2 : SX M (zs (zs M 70 len c) 69 1 (nI (len + 1))) nt np ah u len := S.B (fun b hb => by rw [zs_off _ (by omega), zs_off _ (by omega)]) rfl
  refine zCi_post (fun r' M3 q => ?_) (t8_type J S2.2.2.2.1.2.1 h120)
  rcases q with ⟨z, _⟩ | ⟨_, z, _⟩ | ⟨_, _, rfl, rfl⟩
  · exact absurd z y
  · omega
  refine ⟨?_, rfl⟩
  have e : ∀ b, b ≠ 69 → b ≠ 70 → b ≠ 138 → b ≠ 142 → (zs (zs (zs (zs M 70 len c) 69 1 (nI (len + 1))) 142 len c) 138 10 (nI (len + 1))).1 b = M.1 b := fun b h1 h2 h3 h4 => by rw [zs_off _ h3, zs_off _ h4, zs_off _ h1, zs_off _ h2]
  have e8 : ∀ k, k ≠ 10 → (zs (zs (zs (zs M 70 len c) 69 1 (nI (len + 1))) 142 len c) 138 10 (nI (len + 1))).1 138 k = M.1 138 k := fun k hk => by rw [zs_g, if_neg (by omega), zs_off _ (by decide), zs_off _ (by decide), zs_off _ (by decide)]
  have t1 : (zs (zs (zs (zs M 70 len c) 69 1 (nI (len + 1))) 142 len c) 138 10 (nI (len + 1))).1 69 1 = nI (len + 1) := by simp +decide only [zs_g, za_g, false_and, if_true, if_false]
  have t2 : (zs (zs (zs (zs M 70 len c) 69 1 (nI (len + 1))) 142 len c) 138 10 (nI (len + 1))).1 138 10 = nI (len + 1) := by simp +decide only [zs_g, za_g, false_and, if_true, if_false]
  have t3 : (zs (zs (zs (zs M 70 len c) 69 1 (nI (len + 1))) 142 len c) 138 10 (nI (len + 1))).1 70 = va_up (M.1 70) len c := by rw [zs_off _ (by decide), zs_off _ (by decide), zs_off _ (by decide), zs_at]
  have t4 : (zs (zs (zs (zs M 70 len c) 69 1 (nI (len + 1))) 142 len c) 138 10 (nI (len + 1))).1 142 = va_up (M.1 142) len c := by rw [zs_off _ (by decide), zs_at, zs_off _ (by decide), zs_off _ (by decide)]
  have t5 : (zs (zs (zs (zs M 70 len c) 69 1 (nI (len + 1))) 142 len c) 138 10 (nI (len + 1))).2 = M.2 := rfl
  generalize zs (zs (zs (zs M 70 len c) 69 1 (nI (len + 1))) 142 len c) 138 10 (nI (len + 1)) = Z at e e8 t1 t2 t3 t4 t5
  obtain ⟨w, ts, ⟨k1, k2, k3⟩, ⟨_, _, _, u4, u5⟩, sh⟩ := S
  refine ⟨nt, np, ah, u, len + 1, ?_, by rw [e8 8 (by decide)]; exact ts, ⟨by rw [e 52 (by decide) (by decide) (by decide) (by decide)]; exact k1, by rw [e 0 (by decide) (by decide) (by decide) (by decide), e8 25 (by decide)]; exact k2, fun hz => ?_⟩, ⟨t1, t2, by omega, by rw [t3, t4, u4], fun q hq => ?_⟩, fun q hq => ?_⟩
  · unfold WN
    rw [e8 0 (by decide), e8 1 (by decide), e8 5 (by decide), e8 6 (by decide), e8 20 (by decide), e 139 (by decide) (by decide) (by decide) (by decide), e 140 (by decide) (by decide) (by decide) (by decide), e 141 (by decide) (by decide) (by decide) (by decide), e 145 (by decide) (by decide) (by decide) (by decide)]
    exact WR.A w (fun b h1 h2 => e b (by omega) (by omega) (by omega) (by omega))
  · rw [e 0 (by decide) (by decide) (by decide) (by decide)] at hz
    obtain ⟨a1, a2, a3, a4, K⟩ := k3 hz
    refine ⟨a1, a2, a3, a4, ?_⟩
    unfold WK
    rw [e 149 (by decide) (by decide) (by decide) (by decide)]
    exact WR.A K (fun b h1 h2 => e b (by omega) (by omega) (by omega) (by omega))
  · rw [t3]
    by_cases z : q = len
    · subst z
      rw [va_up_self]
      obtain ⟨j, hj, hc⟩ := nI_of2 (M := 126) (n := 126) (x := c) (by decide) (fun z => y (Or.inl (Int32.lt_trans z (by decide)))) (Int32.not_lt.mp fun z => y (Or.inr z))
      exact ⟨j, by omega, hc⟩
    · rw [va_up_ne _ _ z]; exact u5 q (by omega)
  · unfold SH1
    rw [e (130 + 2 * q) (by omega) (by omega) (by omega) (by omega), e 150 (by decide) (by decide) (by decide) (by decide), e 151 (by decide) (by decide) (by decide) (by decide), t5]
    exact sh q hq
end
section
/-! the image, in pairs -/
theorem ntL_g (f : zF1) (k0 : Nat) (g : zF1) : ∀ (n q : Nat), ntL f k0 g n q = if k0 ≤ q ∧ q < k0 + n then f (q - k0) else g q := by
  intro n
  induction n with
  | zero => intro q; rw [if_neg (by omega)]; rfl
  | succ n ih =>
    intro q
    rw [ntL, va_g, ih]
    by_cases z : q = k0 + n
    · rw [if_pos z, if_pos (by omega), show q - k0 = n by omega]
    · rw [if_neg z]
      by_cases y : k0 ≤ q ∧ q < k0 + n
      · rw [if_pos y, if_pos (by omega)]
      · rw [if_neg y, if_neg (by omega)]
theorem gvL_g (f : zF1) (k0 : Nat) (g : zF1) : ∀ (n q : Nat), gvL f k0 g n q = if q < n then f (k0 + q) else g q := by
  intro n
  induction n with
  | zero => intro q; rw [if_neg (by omega)]; rfl
  | succ n ih =>
    intro q
    rw [gvL, va_g, ih]
    by_cases z : q = n
    · rw [if_pos z, if_pos (by omega), z]
    · rw [if_neg z]
      by_cases y : q < n
      · rw [if_pos y, if_pos (by omega)]
      · rw [if_neg y, if_neg (by omega)]
theorem imF_at (M : zM) : (imF M 138 0 = M.1 138 0 ∧ imF M 138 1 = M.1 138 1 ∧ imF M 138 2 = M.1 138 5 ∧ imF M 138 3 = M.1 138 6 ∧ imF M 138 4 = M.1 138 20) ∧ (∀ q, q < 40 → imF M 138 (5 + q) = M.1 139 q) ∧ (∀ q, q < 16 → imF M 138 (45 + q) = M.1 140 q) ∧ (∀ q, q < 14 → imF M 138 (61 + q) = M.1 141 q) ∧ (∀ q, q < 112 → imF M 138 (75 + q) = M.1 145 q) := by
  unfold imF
  refine ⟨⟨?_, ?_, ?_, ?_, ?_⟩, fun q hq => ?_, fun q hq => ?_, fun q hq => ?_, fun q hq => ?_⟩
  · rw [ntL_g, if_neg (by omega), ntL_g, if_neg (by omega), ntL_g, if_neg (by omega), ntL_g, if_neg (by omega)]; simp +decide only [va_g, if_true, if_false]
  · rw [ntL_g, if_neg (by omega), ntL_g, if_neg (by omega), ntL_g, if_neg (by omega), ntL_g, if_neg (by omega)]; simp +decide only [va_g, if_true, if_false]
  · rw [ntL_g, if_neg (by omega), ntL_g, if_neg (by omega), ntL_g, if_neg (by omega), ntL_g, if_neg (by omega)]; simp +decide only [va_g, if_true, if_false]
  · rw [ntL_g, if_neg (by omega), ntL_g, if_neg (by omega), ntL_g, if_neg (by omega), ntL_g, if_neg (by omega)]; simp +decide only [va_g, if_true, if_false]
  · rw [ntL_g, if_neg (by omega), ntL_g, if_neg (by omega), ntL_g, if_neg (by omega), ntL_g, if_neg (by omega)]; simp +decide only [va_g, if_true, if_false]
  · rw [ntL_g, if_neg (by omega), ntL_g, if_neg (by omega), ntL_g, if_neg (by omega), ntL_g, if_pos (by omega), show 5 + q - 5 = q by omega]
  · rw [ntL_g, if_neg (by omega), ntL_g, if_neg (by omega), ntL_g, if_pos (by omega), show 45 + q - 45 = q by omega]
  · rw [ntL_g, if_neg (by omega), ntL_g, if_pos (by omega), show 61 + q - 61 = q by omega]
  · rw [ntL_g, if_pos (by omega), show 75 + q - 75 = q by omega]
theorem WR.ext {A : zM} {n : Nat} {R0 R1 R5 R6 R20 : Int32} {th pe T U th' pe' T' U' : zF1} {nt np a u : Nat} (h : WR A n R0 R1 R5 R6 R20 th pe T U nt np a u) (e1 : ∀ q, q < 40 → th' q = th q) (e2 : ∀ q, q < 16 → pe' q = pe q) (e3 : ∀ q, q < 14 → T' q = T q) (e4 : ∀ q, q < 112 → U' q = U q) : WR A n R0 R1 R5 R6 R20 th' pe' T' U' nt np a u := by
  obtain ⟨⟨b1, b2, b3, b4⟩, h2, h3, ⟨h4, h4'⟩, ⟨d, h5⟩, h6, h7, ⟨k1, k2, k3⟩, ⟨h9, h9'⟩, h10⟩ := h
  have er : ∀ j, j < u → ∀ q, q < 14 → rowT U' j q = rowT U j q := fun j hj q hq => e4 _ (by omega)
  refine ⟨⟨b1, b2, b3, b4⟩, h2, h3, ⟨fun q hq => (h4 q hq).trans (e1 q (by omega)).symm, fun q hq => (h4' q hq).trans (e2 q (by omega)).symm⟩, ⟨d, trx_ext b2 h5 e3⟩, h6, fun j hj => ?_, ⟨fun j hj => ?_, fun j hj => ?_, fun j hj => ?_⟩, ⟨tOK_ext b2 h9 e3, (e3 3 (by omega)).trans h9'⟩, fun j hj => tOK_ext b2 (h10 j hj) (er j hj)⟩
  · obtain ⟨d2, t⟩ := h7 j hj
    exact ⟨d2, trx_ext b2 t (er j hj)⟩
  · rw [e1 _ (by omega)]; exact k1 j hj
  · rw [e1 _ (by omega)]; exact k2 j hj
  · rw [e2 _ (by omega)]; exact k3 j hj
theorem WR.mv {A A' : zM} {n n' : Nat} {R0 R1 R5 R6 R20 : Int32} {th pe T U : zF1} {nt np a u : Nat} (h : WR A n R0 R1 R5 R6 R20 th pe T U nt np a u) (e1 : A'.1 (n' + 1) = A.1 (n + 1)) (e2 : A'.1 (n' + 2) = A.1 (n + 2)) (e3 : A'.1 (n' + 13) = A.1 (n + 13)) (e4 : A'.1 (n' + 15) = A.1 (n + 15)) (e5 : A'.1 n' 3 = A.1 n 3) (pm : pmF (A'.1 (n' + 17))) (e6 : ∀ k, k < u → A'.1 (n' + 18 + 2 * (A'.1 (n' + 17) k).toNatClampNeg) = A.1 (n + 18 + 2 * (A.1 (n + 17) k).toNatClampNeg)) : WR A' n' R0 R1 R5 R6 R20 th pe T U nt np a u := by
  obtain ⟨h1, h2, h3, h4, h5, h6, h7, h8, h9, h10⟩ := h
  refine ⟨h1, ?_, h3, ?_, ?_, pm, fun j hj => ?_, h8, h9, h10⟩
  · rw [e1, e5]; exact h2
  · rw [e2, e3]; exact h4
  · rw [e4]; exact h5
  · rw [e6 j hj]; exact h7 j hj
/-- one world set from another -/
theorem set_w {M : zM} {i i2 u : Nat} (hi : i = 1 ∧ i2 = 35 ∨ i = 35 ∧ i2 = 1) (pm : pmF (M.1 (i + 17))) (pm2 : pmF (M.1 (i2 + 17))) (hu : u ≤ 8) : (cpP (wcF M i i2) i i2 u).1 (i + 1) = M.1 (i2 + 1) ∧ (cpP (wcF M i i2) i i2 u).1 (i + 2) = M.1 (i2 + 2) ∧ (cpP (wcF M i i2) i i2 u).1 (i + 13) = M.1 (i2 + 13) ∧ (cpP (wcF M i i2) i i2 u).1 (i + 15) = M.1 (i2 + 15) ∧ (cpP (wcF M i i2) i i2 u).1 i 3 = M.1 i2 3 ∧ (cpP (wcF M i i2) i i2 u).1 (i + 17) = M.1 (i + 17) ∧ (∀ k, k < u → (cpP (wcF M i i2) i i2 u).1 (i + 18 + 2 * (M.1 (i + 17) k).toNatClampNeg) = M.1 (i2 + 18 + 2 * (M.1 (i2 + 17) k).toNatClampNeg)) ∧ (∀ b, (b < i ∨ i + 34 ≤ b) → (cpP (wcF M i i2) i i2 u).1 b = M.1 b) ∧ (cpP (wcF M i i2) i i2 u).2 = M.2 := by
  have w17 : (wcF M i i2).1 (i + 17) = M.1 (i + 17) := wcF_off (by omega) (by omega) (by omega) (by omega) (by omega)
  have v17 : (wcF M i i2).1 (i2 + 17) = M.1 (i2 + 17) := wcF_off (by omega) (by omega) (by omega) (by omega) (by omega)
  have pm' : pmF ((wcF M i i2).1 (i + 17)) := by rw [w17]; exact pm
  have off := fun b hb => cpP_off (i2 := i2) pm' u (b := b) hu hb
  refine ⟨?_, ?_, ?_, ?_, ?_, ?_, fun k hk => ?_, fun b hb => ?_, ?_⟩
  · rw [off _ (by omega)]; unfold wcF zrd; rw [zs_off _ (by omega), za_off _ (by omega), za_at]
  · rw [off _ (by omega)]; unfold wcF zrd; rw [zs_off _ (by omega), za_off _ (by omega), za_off _ (by omega), za_off _ (by omega)]; exact za_at _ _ _
  · rw [off _ (by omega)]; unfold wcF zrd; rw [zs_off _ (by omega), za_off _ (by omega), za_off _ (by omega)]; exact za_at _ _ _
  · rw [off _ (by omega)]; unfold wcF; rw [zs_off _ (by omega), za_at]
  · rw [off _ (by omega)]; unfold wcF; rw [zs_at, va_up_self]
  · rw [off _ (by omega), w17]
  · have := cpP_at (i2 := i2) pm' u k hu hk
    rw [w17, v17] at this
    rw [this]
    have k8 := pm_n pm2 (k := k) (by omega)
    exact wcF_off (by omega) (by omega) (by omega) (by omega) (by omega)
  · rw [off _ (by omega)]; exact wcF_off (by omega) (by omega) (by omega) (by omega) (by omega)
  · rw [cpP_2]; rfl
def Q7_image (M : zM) (r : Int32) (M2 : zM) : Prop := ∃ nt np ah u len, SX M M nt np ah u len ∧ P7_image M u r M2
theorem q7_image {l : Launch} {w : zE} (J : zJ w) {M : zM} (S : Sim M) : zCi l w yX7_image cX7_image 1 (some .int) 3 [.ref (w.2.2 0)] M (Q7_image M) := by
  obtain ⟨nt, np, ah, u, len, S⟩ := S
  exact zCi_post (fun r M2 h => ⟨nt, np, ah, u, len, S, h⟩) (t7_image J S.pm S.2.2.1.1 S.cf.2.2.2.2 S.bd.2.2.2)
theorem q8_image {l : Launch} {w : zE} (J : zJ w) {M M2 : zM} {r : Int32} (h : Q7_image M r M2) : zCi l w yX8_image cX8_image 2 (some .int) 1 [.ref (w.2.2 138)] M2 (fun r' M3 => Sim M3 ∧ r' = r) := by
  obtain ⟨nt, np, ah, u, len, S, h⟩ := h
  obtain ⟨rfl, rfl⟩ := h
  obtain ⟨c1, c2, c3, c4, c5, c6, c7, c8, c9⟩ := set_w (M := M) (i := 35) (i2 := 1) (u := u) (Or.inr ⟨rfl, rfl⟩) S.2.2.1.1 S.pm S.bd.2.2.2
  generalize cpP (wcF M 35 1) 35 1 u = N at c1 c2 c3 c4 c5 c6 c7 c8 c9
  refine zCi_post (fun r' M3 q => ?_) (t8_image J)
  obtain ⟨rfl, rfl⟩ := q
  refine ⟨?_, rfl⟩
  have eN : ∀ b, 138 ≤ b → (zs N 0 2 1).1 b = M.1 b := fun b hb => by rw [zs_off _ (by omega)]; exact c8 b (by omega)
  obtain ⟨⟨i0, i1, i2, i3, i4⟩, j1, j2, j3, j4⟩ := imF_at (zs N 0 2 1)
  rw [eN 138 (by omega)] at i0 i1 i2 i3 i4
  rw [eN 139 (by omega)] at j1
  rw [eN 140 (by omega)] at j2
  rw [eN 141 (by omega)] at j3
  rw [eN 145 (by omega)] at j4
  generalize imF (zs N 0 2 1) 138 = I at i0 i1 i2 i3 i4 j1 j2 j3 j4
  have e : ∀ b, b ≠ 0 → b ≠ 138 → b ≠ 149 → (b < 35 ∨ 69 ≤ b) → (zs (za (zs N 0 2 1) 149 I) 138 25 1).1 b = M.1 b := fun b h1 h2 h3 h4 => by rw [zs_off _ h2, za_off _ h3, zs_off _ h1]; exact c8 b (by omega)
  have eK : ∀ b, 35 ≤ b → b < 69 → (zs (za (zs N 0 2 1) 149 I) 138 25 1).1 b = N.1 b := fun b h1 h2 => by rw [zs_off _ (by omega), za_off _ (by omega), zs_off _ (by omega)]
  have e8 : ∀ k, k ≠ 25 → (zs (za (zs N 0 2 1) 149 I) 138 25 1).1 138 k = M.1 138 k := fun k hk => by rw [zs_g, if_neg (by omega), za_off _ (by decide)]; exact congrFun (eN 138 (by omega)) k
  have e25 : (zs (za (zs N 0 2 1) 149 I) 138 25 1).1 138 25 = 1 := by rw [zs_at, va_up_self]
  have e0 : (zs (za (zs N 0 2 1) 149 I) 138 25 1).1 0 2 = 1 := by rw [zs_off _ (by decide), za_off _ (by decide), zs_at, va_up_self]
  have e149 : (zs (za (zs N 0 2 1) 149 I) 138 25 1).1 149 = I := by rw [zs_off _ (by decide), za_at]
  have e2 : (zs (za (zs N 0 2 1) 149 I) 138 25 1).2 = M.2 := c9
  generalize zs (za (zs N 0 2 1) 149 I) 138 25 1 = Z at e eK e8 e25 e0 e149 e2
  obtain ⟨w, ts, ⟨k1, k2, k3⟩, ⟨t1, t2, t3, t4, t5⟩, sh⟩ := S
  refine ⟨nt, np, ah, u, len, ?_, by rw [e8 8 (by decide)]; exact ts, ⟨by rw [eK 52 (by omega) (by omega), c6]; exact k1, by rw [e0, e25], fun _ => ⟨nt, np, ah, u, ?_⟩⟩, ⟨by rw [e 69 (by decide) (by decide) (by decide) (by decide)]; exact t1, by rw [e8 10 (by decide)]; exact t2, t3, by rw [e 70 (by decide) (by decide) (by decide) (by decide), e 142 (by decide) (by decide) (by decide) (by decide)]; exact t4, by rw [e 70 (by decide) (by decide) (by decide) (by decide)]; exact t5⟩, fun q hq => ?_⟩
  · unfold WN
    rw [e8 0 (by decide), e8 1 (by decide), e8 5 (by decide), e8 6 (by decide), e8 20 (by decide), e 139 (by decide) (by decide) (by decide) (by decide), e 140 (by decide) (by decide) (by decide) (by decide), e 141 (by decide) (by decide) (by decide) (by decide), e 145 (by decide) (by decide) (by decide) (by decide)]
    exact WR.A w (fun b h1 h2 => e b (by omega) (by omega) (by omega) (by omega))
  · unfold WK
    rw [e149, i0, i1, i2, i3, i4]
    have pmM : pmF (M.1 52) := k1
    refine WR.ext (WR.mv w ?_ ?_ ?_ ?_ ?_ ?_ (fun k hk => ?_)) j1 j2 j3 j4
    · rw [eK _ (by omega) (by omega)]; exact c1
    · rw [eK _ (by omega) (by omega)]; exact c2
    · rw [eK _ (by omega) (by omega)]; exact c3
    · rw [eK _ (by omega) (by omega)]; exact c4
    · rw [eK _ (by omega) (by omega)]; exact c5
    · rw [eK _ (by omega) (by omega), c6]; exact pmM
    · rw [eK (35 + 17) (by omega) (by omega), c6]
      have h8 := w.1.2.2.2
      have k8 := pm_n pmM (k := k) (by omega)
      rw [eK _ (by omega) (by show 35 + 18 + 2 * (M.1 52 k).toNatClampNeg < 69; omega)]
      exact c7 k hk
  · unfold SH1
    rw [e (130 + 2 * q) (by omega) (by omega) (by omega) (by omega), e 150 (by decide) (by decide) (by decide) (by decide), e 151 (by decide) (by decide) (by decide) (by decide), e2]
    exact sh q hq
def Q7_restore (M : zM) (r : Int32) (M2 : zM) : Prop := ∃ nt np ah u len, SX M M nt np ah u len ∧ ∃ k, k ≤ 8 ∧ (¬ M.1 0 2 = 0 → M.1 35 3 = nI k) ∧ P7_restore M k r M2
theorem q7_restore {l : Launch} {w : zE} (J : zJ w) {M : zM} (S : Sim M) : zCi l w yX7_restore cX7_restore 1 (some .int) 3 [.ref (w.2.2 0)] M (Q7_restore M) := by
  obtain ⟨nt, np, ah, u, len, S⟩ := S
  by_cases hz : M.1 0 2 = 0
  · exact zCi_post (fun r M2 h => ⟨nt, np, ah, u, len, S, 0, by omega, fun z => absurd hz z, h⟩) (t7_restore J (k := 0) S.pm S.2.2.1.1 (fun z => absurd hz z) (by omega))
  · obtain ⟨a1, a2, a3, a4, K⟩ := S.2.2.1.2.2 hz
    exact zCi_post (fun r M2 h => ⟨nt, np, ah, u, len, S, a4, K.1.2.2.2, fun _ => K.2.1.2.2.2.2, h⟩) (t7_restore J (k := a4) S.pm S.2.2.1.1 (fun _ => K.2.1.2.2.2.2) K.1.2.2.2)
theorem q8_restore {l : Launch} {w : zE} (J : zJ w) {M M2 : zM} {r : Int32} (h : Q7_restore M r M2) : zCi l w yX8_restore cX8_restore 2 (some .int) 1 [.ref (w.2.2 138)] M2 (fun r' M3 => Sim M3 ∧ r' = r) := by
  obtain ⟨nt, np, ah, u, len, S, h⟩ := h
  obtain ⟨k, hk8, hk3, h⟩ := h
  rcases h with ⟨y, rfl, rfl⟩ | ⟨y, rfl, rfl⟩
  · refine zCi_post (fun r' M3 q => ?_) (t8_restore J)
    rcases q with ⟨_, rfl, rfl⟩ | ⟨z, _⟩
    · exact ⟨S.sim, rfl⟩
    · exact absurd (S.2.2.1.2.1.symm.trans y) z
  obtain ⟨nt', np', ah', u', K⟩ := S.2.2.1.2.2 y
  have hk : k = u' := (nI_eq (by omega) (by have := K.1.2.2.2; omega)).mp ((hk3 y).symm.trans K.2.1.2.2.2.2)
  subst hk
  obtain ⟨c1, c2, c3, c4, c5, c6, c7, c8, c9⟩ := set_w (M := M) (i := 1) (i2 := 35) (u := k) (Or.inl ⟨rfl, rfl⟩) S.pm S.2.2.1.1 hk8
  generalize cpP (wcF M 1 35) 1 35 k = N at c1 c2 c3 c4 c5 c6 c7 c8 c9
  refine zCi_post (fun r' M3 q => ?_) (t8_restore J)
  have eN : ∀ b, 138 ≤ b → N.1 b = M.1 b := fun b hb => c8 b (by omega)
  rcases q with ⟨z, _⟩ | ⟨_, rfl, rfl⟩
  · rw [eN 138 (by omega)] at z
    exact absurd (S.2.2.1.2.1.trans z) y
  refine ⟨?_, rfl⟩
  have e149 : N.1 149 = M.1 149 := eN 149 (by omega)
  have r1 : ∀ q, q < 40 → (rsF N 138).1 139 q = M.1 149 (5 + q) := fun q hq => by
    unfold rsF
    rw [za_off _ (show 139 ≠ 138 + 7 by decide), za_off _ (show 139 ≠ 138 + 3 by decide), za_off _ (show 139 ≠ 138 + 2 by decide), show (139 : Nat) = 138 + 1 from rfl, za_at, gvL_g, if_pos hq]
    exact congrFun e149 _
  have r2 : ∀ q, q < 16 → (rsF N 138).1 140 q = M.1 149 (45 + q) := fun q hq => by
    unfold rsF
    rw [za_off _ (show 140 ≠ 138 + 7 by decide), za_off _ (show 140 ≠ 138 + 3 by decide), show (140 : Nat) = 138 + 2 from rfl, za_at, gvL_g, if_pos hq]
    exact congrFun e149 _
  have r3 : ∀ q, q < 14 → (rsF N 138).1 141 q = M.1 149 (61 + q) := fun q hq => by
    unfold rsF
    rw [za_off _ (show 141 ≠ 138 + 7 by decide), show (141 : Nat) = 138 + 3 from rfl, za_at, gvL_g, if_pos hq]
    exact congrFun e149 _
  have r4 : ∀ q, q < 112 → (rsF N 138).1 145 q = M.1 149 (75 + q) := fun q hq => by
    unfold rsF
    rw [show (145 : Nat) = 138 + 7 from rfl, za_at, gvL_g, if_pos hq]
    exact congrFun e149 _
  have e : ∀ b, b ≠ 138 → b ≠ 139 → b ≠ 140 → b ≠ 141 → b ≠ 145 → (rsF N 138).1 b = N.1 b := fun b h1 h2 h3 h4 h5 => by
    unfold rsF
    rw [za_off _ h5, za_off _ h4, za_off _ h3, za_off _ h2, zs_off _ h1, zs_off _ h1, zs_off _ h1, zs_off _ h1, zs_off _ h1]
  have e8 : ∀ j, j ≠ 0 → j ≠ 1 → j ≠ 5 → j ≠ 6 → j ≠ 20 → (rsF N 138).1 138 j = M.1 138 j := fun j h1 h2 h3 h4 h5 => by
    unfold rsF
    rw [za_off _ (by decide), za_off _ (by decide), za_off _ (by decide), za_off _ (by decide), zs_g, if_neg (by omega), zs_g, if_neg (by omega), zs_g, if_neg (by omega), zs_g, if_neg (by omega), zs_g, if_neg (by omega)]
    exact congrFun (eN 138 (by omega)) j
  have f : (rsF N 138).1 138 0 = M.1 149 0 ∧ (rsF N 138).1 138 1 = M.1 149 1 ∧ (rsF N 138).1 138 5 = M.1 149 2 ∧ (rsF N 138).1 138 6 = M.1 149 3 ∧ (rsF N 138).1 138 20 = M.1 149 4 := by
    rw [← e149]
    unfold rsF
    rw [za_off _ (show 138 ≠ 138 + 7 by decide), za_off _ (show 138 ≠ 138 + 3 by decide), za_off _ (show 138 ≠ 138 + 2 by decide), za_off _ (show 138 ≠ 138 + 1 by decide)]
    refine ⟨?_, ?_, ?_, ?_, ?_⟩ <;> simp +decide only [zs_g, if_true, if_false]
  have e2 : (rsF N 138).2 = M.2 := c9
  generalize rsF N 138 = Z at r1 r2 r3 r4 e e8 f e2
  have eM : ∀ b, b ≠ 138 → b ≠ 139 → b ≠ 140 → b ≠ 141 → b ≠ 145 → (b < 1 ∨ 35 ≤ b) → Z.1 b = M.1 b := fun b h1 h2 h3 h4 h5 h6 => (e b h1 h2 h3 h4 h5).trans (c8 b (by omega))
  have W : WN Z Z nt' np' ah' k := by
    unfold WN
    rw [f.1, f.2.1, f.2.2.1, f.2.2.2.1, f.2.2.2.2]
    refine WR.ext (WR.mv K ?_ ?_ ?_ ?_ ?_ ?_ (fun j hj => ?_)) r1 r2 r3 r4
    · rw [e _ (by decide) (by decide) (by decide) (by decide) (by decide)]; exact c1
    · rw [e _ (by decide) (by decide) (by decide) (by decide) (by decide)]; exact c2
    · rw [e _ (by decide) (by decide) (by decide) (by decide) (by decide)]; exact c3
    · rw [e _ (by decide) (by decide) (by decide) (by decide) (by decide)]; exact c4
    · rw [e _ (by decide) (by decide) (by decide) (by decide) (by decide)]; exact c5
    · rw [e _ (by decide) (by decide) (by decide) (by decide) (by decide), c6]; exact S.pm
    · rw [e (1 + 17) (by decide) (by decide) (by decide) (by decide) (by decide), c6]
      have k8 := pm_n S.pm (k := j) (by omega)
      have k9 : (M.1 (1 + 17) j).toNatClampNeg < 8 := k8
      rw [e _ (by omega) (by omega) (by omega) (by omega) (by omega)]
      exact c7 j hj
  exact (S.world (M3 := Z) (fun b h1 h2 h3 => eM b (by omega) (by omega) (by omega) (by omega) (by omega) (by omega)) (fun b h1 => eM b (by omega) (by omega) (by omega) (by omega) (by omega) (by omega)) (fun j hj => e8 j (by omega) (by omega) (by omega) (by omega) (by omega)) ((e8 8 (by decide) (by decide) (by decide) (by decide) (by decide)).trans S.2.1) e2 W).sim
end
section
/-! no such sheet -/
theorem rowS_bad {M : zM} {o : Nat} {x ln i n : Int32} (h : x < 0 ∨ 3 < x) : rowS M o x ln i n = -1 := if_pos (Or.inl h)
theorem b7_seen {l : Launch} {w : zE} (J : zJ w) {M : zM} {x ln i n : Int32} (hx : x < 0 ∨ 3 < x) : zCi l w yX7_seen cX7_seen 9 (some .int) 3 [.ref (w.2.2 0), .int x, .int ln, .int i, .int n] M (fun r M2 => M2 = M ∧ r = -1) := by
  have hk : zk 0 = 7 := by decide
  refine zCi_of J zm_X7_seen [some (.ref (w.2.2 0)), some (.int x), some (.int ln), some (.int i), some (.int n), none, none, none, none] (Nat.le_of_ble_eq_true rfl) rfl (fun g hg F X => ?_)
  subst hg
  refine z_iload F dX7_seen_0 rfl ?_
  refine z_iconst (v := 1) F dX7_seen_2 (by decide) ?_
  refine z_ic_lt (tgt := 13) F dX7_seen_3 (by decide) (fun h_3 => ?_) (fun h_3 => ?_)
  · refine z_iconst (v := (-1)) F dX7_seen_13 (by decide) ?_
    refine z_iret F X dX7_seen_14 ?_
    exact ⟨rfl, rfl⟩
  · refine z_iload F dX7_seen_6 rfl ?_
    refine z_bipush (v := 8) F dX7_seen_8 (by decide) ?_
    refine z_ic_le (tgt := 15) F dX7_seen_10 (by decide) (fun h_10 => ?_) (fun h_10 => ?_)
    · refine z_aload_n F dX7_seen_15 rfl ?_
      refine z_iload_n F dX7_seen_16 rfl ?_
      refine z_iload_n F dX7_seen_17 rfl ?_
      refine z_iload_n F dX7_seen_18 rfl ?_
      refine z_iconst (v := 2) F dX7_seen_19 (by decide) ?_
      refine z_iload F dX7_seen_20 rfl ?_
      refine z_imul F dX7_seen_22 ?_
      refine z_callVi F (c_X7_rowFault J hk) zm_X7_rowFault zv_X7_rowFault ml_X7_229 (by with_reducible assumption) (by decide) rfl rfl rfl (Nat.le_of_ble_eq_true rfl) dX7_seen_23 (by omega) (fun r_23 M_23 h_23 => ?_)
      obtain ⟨e_23, rfl⟩ := h_23
      replace e_23 := Eq.symm e_23
      subst e_23
      refine z_istore (lv' := [_, _, _, _, _, _, _, _, _]) F dX7_seen_26 (by decide) rfl rfl ?_
      refine z_iload F dX7_seen_28 rfl ?_
      refine z_if_ge (tgt := 36) F dX7_seen_30 (by decide) (fun h_30 => absurd h_30 (by rw [rowS_bad hx]; decide)) (fun h_30 => ?_)
      refine z_iload F dX7_seen_33 rfl ?_
      refine z_iret F X dX7_seen_35 ?_
      exact ⟨rfl, rowS_bad hx⟩
    · refine z_iconst (v := (-1)) F dX7_seen_13 (by decide) ?_
      refine z_iret F X dX7_seen_14 ?_
      exact ⟨rfl, rfl⟩
theorem b7_film {l : Launch} {w : zE} (J : zJ w) {M : zM} {x ln i : Int32} (hx : x < 0 ∨ 3 < x) : zCi l w yX7_film cX7_film 7 (some .int) 5 [.ref (w.2.2 0), .int x, .int ln, .int i] M (fun r M2 => M2 = M ∧ r = -1) := by
  have hk : zk 0 = 7 := by decide
  refine zCi_of J zm_X7_film [some (.ref (w.2.2 0)), some (.int x), some (.int ln), some (.int i), none, none, none] (Nat.le_of_ble_eq_true rfl) rfl (fun g hg F X => ?_)
  subst hg
  refine z_bipush (v := 12) F dX7_film_0 (by decide) ?_
  refine z_aload_n F dX7_film_2 rfl ?_
  refine zg_X7_now F (by with_reducible assumption) fl_X7_10 dX7_film_3 (fun hk_3 => ?_)
  refine zg_X6_trip F (by with_reducible assumption) fl_X7_83 dX7_film_6 (fun hk_6 => ?_)
  refine zg_X5_ahead F (by with_reducible assumption) fl_X7_130 dX7_film_9 ?_
  refine z_isub F dX7_film_12 ?_
  refine z_istore (lv' := [_, _, _, _, _, _, _]) F dX7_film_13 (by decide) rfl rfl ?_
  refine z_aload_n F dX7_film_15 rfl ?_
  refine z_iload_n F dX7_film_16 rfl ?_
  refine z_iload_n F dX7_film_17 rfl ?_
  refine z_iload_n F dX7_film_18 rfl ?_
  refine z_iload F dX7_film_19 rfl ?_
  refine z_callVi F (c_X7_rowFault J hk) zm_X7_rowFault zv_X7_rowFault ml_X7_229 (by with_reducible assumption) (by decide) rfl rfl rfl (Nat.le_of_ble_eq_true rfl) dX7_film_21 (by omega) (fun r_21 M_21 h_21 => ?_)
  obtain ⟨e_21, rfl⟩ := h_21
  replace e_21 := Eq.symm e_21
  subst e_21
  refine z_istore (lv' := [_, _, _, _, _, _, _]) F dX7_film_24 (by decide) rfl rfl ?_
  refine z_iload F dX7_film_26 rfl ?_
  refine z_if_ge (tgt := 34) F dX7_film_28 (by decide) (fun h_28 => absurd h_28 (by rw [rowS_bad hx]; decide)) (fun h_28 => ?_)
  refine z_iload F dX7_film_31 rfl ?_
  refine z_iret F X dX7_film_33 ?_
  exact ⟨rfl, rowS_bad hx⟩
theorem b7_deal {l : Launch} {w : zE} (J : zJ w) {M : zM} {x ln i : Int32} (hx : x < 0 ∨ 3 < x) : zCi l w yX7_deal cX7_deal 10 (some .int) 3 [.ref (w.2.2 0), .int x, .int ln, .int i] M (fun r M2 => M2 = M ∧ r = -1) := by
  have hk : zk 0 = 7 := by decide
  refine zCi_of J zm_X7_deal [some (.ref (w.2.2 0)), some (.int x), some (.int ln), some (.int i), none, none, none, none, none, none] (Nat.le_of_ble_eq_true rfl) rfl (fun g hg F X => ?_)
  subst hg
  refine z_aload_n F dX7_deal_0 rfl ?_
  refine zg_X7_now F (by with_reducible assumption) fl_X7_10 dX7_deal_1 (fun hk_1 => ?_)
  refine zg_X6_road F (by with_reducible assumption) fl_X7_44 dX7_deal_4 (fun hk_4 => ?_)
  refine zg_X1_personCount F (by with_reducible assumption) fl_X7_101 dX7_deal_7 ?_
  refine z_istore (lv' := [_, _, _, _, _, _, _, _, _, _]) F dX7_deal_10 (by decide) rfl rfl ?_
  refine z_aload_n F dX7_deal_12 rfl ?_
  refine z_iload_n F dX7_deal_13 rfl ?_
  refine z_iload_n F dX7_deal_14 rfl ?_
  refine z_iload_n F dX7_deal_15 rfl ?_
  refine z_iload F dX7_deal_16 rfl ?_
  refine z_callVi F (c_X7_rowFault J hk) zm_X7_rowFault zv_X7_rowFault ml_X7_229 (by with_reducible assumption) (by decide) rfl rfl rfl (Nat.le_of_ble_eq_true rfl) dX7_deal_18 (by omega) (fun r_18 M_18 h_18 => ?_)
  obtain ⟨e_18, rfl⟩ := h_18
  replace e_18 := Eq.symm e_18
  subst e_18
  refine z_istore (lv' := [_, _, _, _, _, _, _, _, _, _]) F dX7_deal_21 (by decide) rfl rfl ?_
  refine z_iload F dX7_deal_23 rfl ?_
  refine z_if_ge (tgt := 31) F dX7_deal_25 (by decide) (fun h_25 => absurd h_25 (by rw [rowS_bad hx]; decide)) (fun h_25 => ?_)
  refine z_iload F dX7_deal_28 rfl ?_
  refine z_iret F X dX7_deal_30 ?_
  exact ⟨rfl, rowS_bad hx⟩
theorem b7_item {l : Launch} {w : zE} (J : zJ w) {M : zM} {x ln i : Int32} {v : Int64} (hx : x < 0 ∨ 3 < x) : zCi l w yX7_item cX7_item 7 (some .int) 3 [.ref (w.2.2 0), .int x, .int ln, .int i, .long v] M (fun r M2 => M2 = M ∧ r = -1) := by
  have hk : zk 0 = 7 := by decide
  refine zCi_of J zm_X7_item [some (.ref (w.2.2 0)), some (.int x), some (.int ln), some (.int i), some (.long v), none, none] (Nat.le_of_ble_eq_true rfl) rfl (fun g hg F X => ?_)
  subst hg
  refine z_aload_n F dX7_item_0 rfl ?_
  refine z_iload_n F dX7_item_1 rfl ?_
  refine z_iload_n F dX7_item_2 rfl ?_
  refine z_iload_n F dX7_item_3 rfl ?_
  refine z_iconst (v := 1) F dX7_item_4 (by decide) ?_
  refine z_callVi F (c_X7_rowFault J hk) zm_X7_rowFault zv_X7_rowFault ml_X7_229 (by with_reducible assumption) (by decide) rfl rfl rfl (Nat.le_of_ble_eq_true rfl) dX7_item_5 (by omega) (fun r_5 M_5 h_5 => ?_)
  obtain ⟨e_5, rfl⟩ := h_5
  replace e_5 := Eq.symm e_5
  subst e_5
  refine z_istore (lv' := [_, _, _, _, _, _, _]) F dX7_item_8 (by decide) rfl rfl ?_
  refine z_iload F dX7_item_10 rfl ?_
  refine z_if_ge (tgt := 18) F dX7_item_12 (by decide) (fun h_12 => absurd h_12 (by rw [rowS_bad hx]; decide)) (fun h_12 => ?_)
  refine z_iload F dX7_item_15 rfl ?_
  refine z_iret F X dX7_item_17 ?_
  exact ⟨rfl, rowS_bad hx⟩
theorem b7_copy {l : Launch} {w : zE} (J : zJ w) {M : zM} {x i y j n : Int32} (hx : (x < 0 ∨ 3 < x) ∨ (y < 0 ∨ 3 < y)) : zCi l w yX7_copy cX7_copy 8 (some .int) 3 [.ref (w.2.2 0), .int x, .int i, .int y, .int j, .int n] M (fun r M2 => M2 = M ∧ r = -1) := by
  have hk : zk 0 = 7 := by decide
  refine zCi_of J zm_X7_copy [some (.ref (w.2.2 0)), some (.int x), some (.int i), some (.int y), some (.int j), some (.int n), none, none] (Nat.le_of_ble_eq_true rfl) rfl (fun g hg F X => ?_)
  subst hg
  refine z_iload_n F dX7_copy_0 rfl ?_
  refine z_iconst (v := 3) F dX7_copy_1 (by decide) ?_
  refine z_callSi F (c_X7_isNot J) zm_X7_isNot zst_X7_isNot ml_X7_40 rfl rfl (Nat.le_of_ble_eq_true rfl) dX7_copy_2 (by omega) (fun r_2 M_2 h_2 => ?_)
  obtain ⟨e_2, rfl⟩ := h_2
  replace e_2 := Eq.symm e_2
  subst e_2
  refine z_if_ne (tgt := 16) F dX7_copy_5 (by decide) (fun h_5 => ?_) (fun h_5 => ?_)
  · replace h_5 := bI_1.mp h_5
    refine z_iconst (v := (-1)) F dX7_copy_16 (by decide) ?_
    refine z_iret F X dX7_copy_17 ?_
    exact ⟨rfl, rfl⟩
  · replace h_5 := bI_0.mp h_5
    refine z_iload_n F dX7_copy_8 rfl ?_
    refine z_iconst (v := 3) F dX7_copy_9 (by decide) ?_
    refine z_callSi F (c_X7_isNot J) zm_X7_isNot zst_X7_isNot ml_X7_40 rfl rfl (Nat.le_of_ble_eq_true rfl) dX7_copy_10 (by omega) (fun r_10 M_10 h_10 => ?_)
    obtain ⟨e_10, rfl⟩ := h_10
    replace e_10 := Eq.symm e_10
    subst e_10
    refine z_if_eq (tgt := 18) F dX7_copy_13 (by decide) (fun h_13 => ?_) (fun h_13 => ?_)
    · replace h_13 := bI_0.mp h_13
      exact absurd hx (fun z => z.elim h_5 h_13)
    · replace h_13 := bI_1.mp h_13
      refine z_iconst (v := (-1)) F dX7_copy_16 (by decide) ?_
      refine z_iret F X dX7_copy_17 ?_
      exact ⟨rfl, rfl⟩
end
section
/-! what the calls on sheets need -/
theorem rg_nat {L m : Nat} {i : Int32} (hL : L ≤ 16) (hm : m < 2 ^ 31) : ¬ (i < 0 ∨ (nI L).toInt64 < i.toInt64 + (nI m).toInt64) ↔ ∃ a, i = nI a ∧ a + m ≤ L := by
  constructor
  · intro h
    refine why_ok2 (A := 0) (ln := 0) (B := nI L) hm rfl hL (fun z => ?_)
    unfold whyF at z
    rw [if_neg (by decide), if_neg (by decide), if_neg h] at z
    exact absurd z (by decide)
  · rintro ⟨a, rfl, h⟩ z
    rcases z with z | z
    · exact nI_pos (by omega) z
    · rw [nI_l (by omega), nI_l (by omega), nI_l (by omega), lN_add, pk_lLT (by omega) (by omega)] at z
      omega
theorem rg_cl {L m : Nat} {i : Int32} (hL : L ≤ 16) (hm : m < 2 ^ 31) : (0 ≤ i ∧ 0 ≤ nI m ∧ nI m ≤ nI L ∧ i ≤ nI L - nI m) ↔ ∃ a, i = nI a ∧ a + m ≤ L := by
  constructor
  · rintro ⟨h1, h2, h3, h4⟩
    obtain ⟨a, k, e1, e2, h⟩ := rng_n rfl hL h1 h2 h3 h4
    have : m = k ∨ ¬ k < 2 ^ 31 := by
      by_cases z : k < 2 ^ 31
      · exact Or.inl ((nI_eq hm z).mp e2)
      · exact Or.inr z
    exact ⟨a, e1, by omega⟩
  · rintro ⟨a, rfl, h⟩
    refine ⟨nI_pos' (by omega), nI_pos' (by omega), nI_le (by omega) (by omega), ?_⟩
    rw [pk_sub (by omega)]
    exact nI_le (by omega) (by omega)
theorem row_why {A B : zM} {q m : Nat} {ln i : Int32} (H : SH1 A B q) (hm : m < 2 ^ 31) : rowF (A.1 (130 + 2 * q)) ln i (nI m) = whyF (B.1 150 q) (B.1 151 q) ln i (nI m) := by
  obtain ⟨h1, ⟨L, hL, hA, hB⟩, _⟩ := H
  unfold rowF whyF
  rcases h1 with ⟨a1, a2⟩ | ⟨a1, l, hl, a2, a3⟩
  · rw [if_pos a1, a2, if_pos (by decide)]
  · rw [if_neg (by rw [a1]; decide), a2, a3, if_neg (nI_pos (by omega))]
    by_cases z : nI l = ln
    · rw [if_neg (show ¬ ¬ nI l = ln from fun y => y z), if_neg (show ¬ ¬ nI l = ln from fun y => y z), hA, hB]
      by_cases y : ∃ a, i = nI a ∧ a + m ≤ L
      · rw [if_pos ((rg_cl hL hm).mpr y), if_neg ((rg_nat hL hm).mpr y)]
      · rw [if_neg (fun c => y ((rg_cl hL hm).mp c)), if_pos (Classical.byContradiction fun c => y ((rg_nat hL hm).mp c))]
    · rw [if_pos z, if_pos z]
theorem rowS_q {M : zM} {q : Nat} {ln i n : Int32} (hq : q < 4) (hl : ¬ (ln < 0 ∨ 3 < ln)) : rowS M 0 (nI q) ln i n = rowF (M.1 (130 + 2 * q)) ln i n := by
  have e : (nI q).toNatClampNeg = q := nI_clamp (by omega)
  unfold rowS
  rw [if_neg (fun z => z.elim (fun z => z.elim (nI_pos (by omega)) (fun y => nI_nlt (a := 3) (b := q) (by omega) (by decide) y)) hl), e]
theorem rowS_l {M : zM} {x ln i n : Int32} (hl : ln < 0 ∨ 3 < ln) : rowS M 0 x ln i n = -1 := if_pos (Or.inr hl)
theorem nI4 {q : Nat} (hq : q < 4) : ¬ (nI q < 0 ∨ 3 < nI q) := fun z => z.elim (nI_pos (by omega)) (fun y => nI_nlt (a := 3) (b := q) (by omega) (by decide) y)
theorem allIn_cg {f g : Nat → Int64} {nt : Int32} (h : ∀ k, k < 16 → f k = g k) : ∀ (j k : Nat), k + j ≤ 16 → (allIn f nt j k ↔ allIn g nt j k) := by
  intro j
  induction j with
  | zero => intro k _; exact Iff.rfl
  | succ j ih =>
    intro k hk
    rw [allIn, allIn, h k (by omega), ih (k + 1) (by omega)]
theorem seenL_cg {nt : Nat} {th th' : zF1} {f g : Nat → Int64} (h10 : nt ≤ 10) (ht : thE nt th th') (h : ∀ k, k < 16 → f k = g k) : ∀ (m a : Nat) (s : Int32), a + 2 * m ≤ 16 → allIn g (nI nt) (2 * m) a → seenL th f m a s = seenL th' g m a s := by
  intro m
  induction m with
  | zero => intro a s _ _; rfl
  | succ m ih =>
    intro a s ha al
    obtain ⟨g1, g2, g3⟩ := (show allIn g (nI nt) (2 * m + 1 + 1) a from al)
    obtain ⟨j1, h1, e1⟩ := l_in g1 h10
    obtain ⟨j2, h2, e2⟩ := l_in g2 h10
    rw [seenL, seenL, h a (by omega), h (a + 1) (by omega), e1, e2, nI_clamp (by omega), nI_clamp (by omega)]
    have em : mindsF th j1 j2 = mindsF th' j1 j2 := by
      unfold mindsF
      rw [felt_cg ht h1, felt_cg ht h2, felt_cg ht h1, felt_cg ht h2]
    rw [em]
    exact ih (a + 2) _ (by omega) g3
theorem film_cg {nt np q : Nat} {rb rb' th th' pe pe' : zF1} {d ln : Int32} (h10 : nt ≤ 10) (hr : rbE nt rb rb') (h : thE nt th th') (hp : peE np pe pe') : ∀ (j k : Nat) (s s' : zF1 × Int32) (f F : Nat → Int64), k + j ≤ 16 → trx np d s5 s.1 s'.1 → (∀ i, i < 16 → f i = F (16 * q + i)) → (∀ i, i < 16 → filmL rb th pe np ln j k s f i = filmL rb' th' pe' np ln j (16 * q + k) s' F (16 * q + i)) ∧ (∀ y, (y < 16 * q ∨ 16 * q + 16 ≤ y) → filmL rb' th' pe' np ln j (16 * q + k) s' F y = F y) := by
  intro j
  induction j with
  | zero => intro k s s' f F _ _ e; exact ⟨e, fun y _ => rfl⟩
  | succ j ih =>
    intro k s s' f F hk t e
    have t2 : trx np d s5 (passF rb th pe np 1 s).1 (passF rb' th' pe' np 1 s').1 := by
      rw [passF_fst, passF_fst]
      exact (pass_cg (S := (s.1, 0)) (S' := (s'.1, 0)) (c := 1) h10 hr h hp t rfl).1
    rw [filmL, filmL]
    have := ih (k + 1) (passF rb th pe np 1 s) (passF rb' th' pe' np 1 s') (va_up f k (putF ln ((passF rb th pe np 1 s).1 0).toInt64)) (va_up F (16 * q + k) (putF ln ((passF rb' th' pe' np 1 s').1 0).toInt64)) (by omega) t2 (fun i hi => by
      rw [va_g, va_g, t2.1]
      by_cases z : i = k
      · rw [if_pos z, if_pos (by omega)]
      · rw [if_neg z, if_neg (by omega)]; exact e i hi)
    refine ⟨this.1, fun y hy => ?_⟩
    have h2 := this.2 y hy
    rw [va_up_ne _ _ (by omega)] at h2
    exact h2
theorem mvL_g (f : Nat → Int64) (s : Nat) (g : Nat → Int64) (d : Nat) : ∀ (n j : Nat), mvL f s g d n j = if d ≤ j ∧ j < d + n then f (s + (j - d)) else g j := by
  intro n
  induction n with
  | zero => intro j; rw [if_neg (by omega)]; rfl
  | succ n ih =>
    intro j
    rw [mvL, va_g, ih]
    by_cases z : j = d + n
    · rw [if_pos z, if_pos (by omega), show j - d = n by omega]
    · rw [if_neg z]
      by_cases y : d ≤ j ∧ j < d + n
      · rw [if_pos y, if_pos (by omega)]
      · rw [if_neg y, if_neg (by omega)]
theorem zeL_g (f : Nat → Int64) (b : Nat) : ∀ (n j : Nat), zeL f b n j = if b ≤ j ∧ j < b + n then 0 else f j := by
  intro n
  induction n with
  | zero => intro j; rw [if_neg (by omega)]; rfl
  | succ n ih =>
    intro j
    rw [zeL, va_g, ih]
    by_cases z : j = b + n
    · rw [if_pos z, if_pos (by omega)]
    · rw [if_neg z]
      by_cases y : b ≤ j ∧ j < b + n
      · rw [if_pos y, if_pos (by omega)]
      · rw [if_neg y, if_neg (by omega)]
theorem bit_O (a b : Nat) : nI a ||| nI b = nI (a ||| b) := Int32.toBitVec_inj.mp (show BitVec.ofNat 32 a ||| BitVec.ofNat 32 b = BitVec.ofNat 32 (a ||| b) from BitVec.ofNat_or.symm)
theorem bit_A (a b : Nat) : nI a &&& nI b = nI (a &&& b) := Int32.toBitVec_inj.mp (show BitVec.ofNat 32 a &&& BitVec.ofNat 32 b = BitVec.ofNat 32 (a &&& b) from BitVec.ofNat_and.symm)
theorem bit_1 : ∀ t, t < 10 → (1 : Int32) <<< (nI t &&& 31) = nI (2 ^ t) ∧ 2 ^ t < 1024 := by decide +kernel
theorem bit_or (t : Nat) (ht : t < 10) (m : Nat) (hm : m < 1024) : nI m ||| ((1 : Int32) <<< (nI t &&& 31)) = nI (m ||| 2 ^ t) ∧ (m ||| 2 ^ t) < 1024 := by
  rw [(bit_1 t ht).1]
  exact ⟨bit_O _ _, Nat.or_lt_two_pow (n := 10) hm (bit_1 t ht).2⟩
theorem bit_n {m s : Nat} (hm : m < 1024) (hs : s < 10) : nI m >>> (nI s &&& 31) &&& 1 = 1 ↔ m.testBit s = true := by
  have h1 : m / 2 ^ s ≤ m := Nat.div_le_self _ _
  rw [pk_shrN (by omega) _ s (coin_sh s (by omega)), pk_andN (by omega) 1 (by decide), Nat.testBit_eq_decide_div_mod_eq, decide_eq_true_iff]
  exact nI_eq (b := 1) (by omega) (by decide)
theorem bit_t (t : Nat) (ht : t < 10) (m : Nat) (hm : m < 1024) : (nI m &&& ((1 : Int32) <<< (nI t &&& 31)) = 0) ↔ ¬ (nI m >>> (nI t &&& 31) &&& 1 = 1) := by
  have hlt : m &&& 2 ^ t < 2 ^ 31 := Nat.lt_of_le_of_lt Nat.and_le_left (by omega)
  rw [bit_n hm ht, (bit_1 t ht).1, bit_A m (2 ^ t), show (0 : Int32) = nI 0 from rfl, nI_eq hlt (by decide)]
  constructor
  · intro z y
    have h2 : (m &&& 2 ^ t).testBit t = true := by rw [Nat.testBit_and, y, Nat.testBit_two_pow_self]; rfl
    rw [z, Nat.zero_testBit] at h2
    exact absurd h2 (by decide)
  · intro y
    apply Nat.eq_of_testBit_eq
    intro i
    rw [Nat.testBit_and, Nat.zero_testBit]
    by_cases h : t = i
    · subst h
      rw [show m.testBit t = false from by cases hb : m.testBit t with | false => rfl | true => exact absurd hb y]
      rfl
    · rw [Nat.testBit_two_pow_of_ne h, Bool.and_false]
theorem bit_m {t s m : Nat} (ht : t < 10) (hs : s < 10) (hm : m < 1024) (h : ¬ (nI (m ||| 2 ^ t) >>> (nI s &&& 31) &&& 1 = 1)) : ¬ (nI m >>> (nI s &&& 31) &&& 1 = 1) ∧ ¬ s = t := by
  rw [bit_n (bit_or t ht m hm).2 hs, Nat.testBit_or] at h
  rw [bit_n hm hs]
  refine ⟨fun z => h (by rw [z]; rfl), fun z => h ?_⟩
  subst z
  rw [Nat.testBit_two_pow_self, Bool.or_true]
theorem i64_0 {v : Int64} (h : ¬ v < 0) : 0 ≤ v := Int64.not_lt.mp h
theorem deal_cg {nt : Nat} {f g : Nat → Int64} (h10 : nt ≤ 10) (h : ∀ k, k < 16 → f k = g k) : ∀ (j k m : Nat), k + j ≤ 16 → m < 1024 → dealL f (nI nt) j k (nI m) = dlR g (nI nt) j k (nI m) := by
  intro j
  induction j with
  | zero => intro k m _ _; rfl
  | succ j ih =>
    intro k m hk hm
    rw [dealL, dlR, h k (by omega)]
    by_cases z : g k < 0
    · rw [if_pos z]
      have n1 : ¬ ((nI nt).toInt64 ≤ g k ∨ (0 ≤ g k ∧ nI m >>> ((g k).toInt32 &&& 31) &&& 1 = 1)) := fun y => by
        rcases y with y | y
        · have : (0 : Int64) ≤ (nI nt).toInt64 := by rw [nI_l (by omega)]; exact (pk_lLE (a := 0) (by decide) (by omega)).mpr (Nat.zero_le _)
          exact Int64.lt_irrefl (Int64.lt_of_lt_of_le z (Int64.le_trans this y))
        · exact Int64.lt_irrefl (Int64.lt_of_lt_of_le z y.1)
      rw [if_neg n1, if_pos z, Int32.or_zero]
      exact ih (k + 1) m (by omega) hm
    · rw [if_neg z]
      by_cases y : (nI nt).toInt64 ≤ g k
      · rw [if_pos y, if_pos (Or.inl y)]
      · rw [if_neg y]
        obtain ⟨t, ht, e⟩ := l_in ⟨i64_0 z, Int64.not_le.mp y⟩ h10
        rw [e]
        by_cases c : nI m &&& ((1 : Int32) <<< (nI t &&& 31)) = 0
        · have c2 := (bit_t t (by omega) m hm).mp c
          rw [if_pos c, if_neg (fun q => q.elim y (fun q => c2 q.2)), if_neg z]
          obtain ⟨o2, o1⟩ := bit_or t (by omega) m hm
          rw [o2]
          exact ih (k + 1) _ (by omega) o1
        · have c2 := Classical.byContradiction fun q => c ((bit_t t (by omega) m hm).mpr q)
          rw [if_neg c, if_pos (Or.inr ⟨i64_0 z, c2⟩)]
/-- what can be dealt is nobody's twice, and not his -/
theorem deal_uq {nt : Nat} {g : Nat → Int64} (h10 : nt ≤ 10) : ∀ (j k m : Nat), m < 1024 → dlR g (nI nt) j k (nI m) = true → (∀ p, k ≤ p → p < k + j → g p < 0 ∨ ∃ t, t < nt ∧ (g p).toInt32 = nI t ∧ 0 ≤ g p ∧ ¬ (nI m >>> (nI t &&& 31) &&& 1 = 1)) ∧ (∀ p q, k ≤ p → p < q → q < k + j → g p < 0 ∨ g q < 0 ∨ ¬ (g p).toInt32 = (g q).toInt32) := by
  intro j
  induction j with
  | zero => intro k m _ _; exact ⟨fun p a b => by omega, fun p q a b c => by omega⟩
  | succ j ih =>
    intro k m hm h
    rw [dlR] at h
    by_cases c : (nI nt).toInt64 ≤ g k ∨ (0 ≤ g k ∧ nI m >>> ((g k).toInt32 &&& 31) &&& 1 = 1)
    · rw [if_pos c] at h; exact absurd h (by decide)
    rw [if_neg c] at h
    by_cases z : g k < 0
    · rw [if_pos z, Int32.or_zero] at h
      obtain ⟨i1, i2⟩ := ih (k + 1) m hm h
      refine ⟨fun p a b => ?_, fun p q a b e => ?_⟩
      · by_cases y : p = k
        · subst y; exact Or.inl z
        · exact i1 p (by omega) (by omega)
      · by_cases y : p = k
        · subst y; exact Or.inl z
        · exact i2 p q (by omega) b (by omega)
    · rw [if_neg z] at h
      obtain ⟨t, ht, e⟩ := l_in ⟨i64_0 z, Int64.not_le.mp fun y => c (Or.inl y)⟩ h10
      rw [e] at h c
      obtain ⟨o2, o1⟩ := bit_or t (by omega) m hm
      rw [o2] at h
      obtain ⟨i1, i2⟩ := ih (k + 1) _ o1 h
      have mono : ∀ s, s < 10 → ¬ (nI (m ||| 2 ^ t) >>> (nI s &&& 31) &&& 1 = 1) → ¬ (nI m >>> (nI s &&& 31) &&& 1 = 1) ∧ ¬ s = t := fun s hs y => bit_m (by omega) hs hm y
      refine ⟨fun p a b => ?_, fun p q a b e2 => ?_⟩
      · by_cases y : p = k
        · subst y; exact Or.inr ⟨t, ht, e, i64_0 z, fun q => c (Or.inr ⟨i64_0 z, q⟩)⟩
        · rcases i1 p (by omega) (by omega) with r | ⟨s, hs, r1, r2, r3⟩
          · exact Or.inl r
          · exact Or.inr ⟨s, hs, r1, r2, (mono s (by omega) r3).1⟩
      · by_cases y : p = k
        · subst y
          rcases i1 q (by omega) (by omega) with r | ⟨s, hs, r1, r2, r3⟩
          · exact Or.inr (Or.inl r)
          · refine Or.inr (Or.inr fun q2 => (mono s (by omega) r3).2 ?_)
            rw [e, r1] at q2
            exact ((nI_eq (by omega) (by omega)).mp q2).symm
        · exact i2 p q (by omega) b (by omega)
end
section
/-! calls on sheets, in pairs -/
def Q7_seen (M : zM) (x : Int32) (ln : Int32) (i : Int32) (n : Int32) (r : Int32) (M2 : zM) : Prop := ∃ nt np ah u len, SX M M nt np ah u len ∧ ((x < 0 ∨ 3 < x) ∧ M2 = M ∧ r = -1 ∨ ¬ (x < 0 ∨ 3 < x) ∧ ∃ L, P7_seen M L x ln i n r M2)
theorem q7_seen {l : Launch} {w : zE} (J : zJ w) {M : zM} {x : Int32} {ln : Int32} {i : Int32} {n : Int32} (S : Sim M) : zCi l w yX7_seen cX7_seen 9 (some .int) 3 [.ref (w.2.2 0), .int x, .int ln, .int i, .int n] M (Q7_seen M x ln i n) := by
  obtain ⟨nt, np, ah, u, len, S⟩ := S
  by_cases hx : x < 0 ∨ 3 < x
  · exact zCi_post (fun r M2 h => ⟨nt, np, ah, u, len, S, Or.inl ⟨hx, h.1, h.2⟩⟩) (b7_seen J hx)
  · obtain ⟨q, hq, e⟩ := s4_in hx
    obtain ⟨_, ⟨L, hL, hA, hB⟩, _⟩ := S.2.2.2.2 q hq
    exact zCi_post (fun r M2 h => ⟨nt, np, ah, u, len, S, Or.inr ⟨hx, L, h⟩⟩) (t7_seen J S.nt10 (L := L) (by rw [e, nI_clamp (by omega)]; exact hA) hL)
theorem q8_seen {l : Launch} {w : zE} (J : zJ w) {M M2 : zM} {x : Int32} {ln : Int32} {i : Int32} {n : Int32} {r : Int32} (h : Q7_seen M x ln i n r M2) : zCi l w yX8_seen cX8_seen 10 (some .int) 2 [.ref (w.2.2 138), .int x, .int ln, .int i, .int n] M2 (fun r' M3 => Sim M3 ∧ r' = r) := by
  obtain ⟨nt, np, ah, u, len, S, h⟩ := h
  rcases h with ⟨hx, rfl, rfl⟩ | ⟨hx, L, rfl, h⟩
  · refine zCi_post (fun r' M3 q => ?_) (t8_seen J S.rf.1 S.bd.1 S.kd.1 S.sz)
    obtain ⟨rfl, q⟩ := q
    rcases q with ⟨_, rfl⟩ | ⟨z, _⟩
    · exact ⟨S.sim, rfl⟩
    · exact absurd (Or.inl (Or.inl hx)) z
  refine zCi_post (fun r' M3 q => ?_) (t8_seen J S.rf.1 S.bd.1 S.kd.1 S.sz)
  obtain ⟨rfl, q⟩ := q
  refine ⟨S.sim, ?_⟩
  obtain ⟨q0, hq, rfl⟩ := s4_in hx
  have e : (nI q0).toNatClampNeg = q0 := nI_clamp (by omega)
  have H := S.2.2.2.2 q0 hq
  rcases h with ⟨hn, rfl⟩ | ⟨hn, h⟩
  · rcases q with ⟨_, rfl⟩ | ⟨z, _⟩
    · rfl
    · exact absurd (Or.inr hn) z
  by_cases hl : ln < 0 ∨ 3 < ln
  · rw [rowS_l hl] at h
    rcases h with ⟨_, rfl⟩ | ⟨z, _⟩
    · rcases q with ⟨_, rfl⟩ | ⟨z, _⟩
      · rfl
      · exact absurd (Or.inl (Or.inr hl)) z
    · exact absurd (by decide) z
  obtain ⟨m, hm, rfl⟩ := nI_of2 (M := 8) (n := 8) (x := n) (by decide) (by grind) (by grind)
  rw [rowS_q hq hl, n2, row_why H (by omega)] at h
  rcases q with ⟨z, _⟩ | ⟨_, q1, hq1, e1, q⟩
  · exact absurd z (fun y => y.elim (fun y => y.elim hx hl) hn)
  obtain rfl : q0 = q1 := (nI_eq (by omega) (by omega)).mp e1
  rw [n2] at q
  rcases h with ⟨h1, rfl⟩ | ⟨h1, a, m1, ea, em, ham, h⟩
  · rcases q with ⟨_, rfl⟩ | ⟨z, _⟩
    · rfl
    · exact absurd h1 z
  rcases q with ⟨z, _⟩ | ⟨_, a2, m2, ea2, em2, ham2, q⟩
  · exact absurd z h1
  obtain rfl : a = a2 := (nI_eq (by omega) (by omega)).mp (ea.symm.trans ea2)
  obtain rfl : m1 = m2 := (nI_eq (by omega) (by omega)).mp (em.symm.trans em2)
  rw [e, S.cf.1] at h
  rw [S.rf.1] at q
  have eq := H.2.2
  have al := allIn_cg (nt := nI nt) (g := fun k => M3.2 152 (16 * q0 + k)) eq (2 * m1) a ham
  rcases h with ⟨h2, rfl⟩ | ⟨h2, rfl⟩
  · rcases q with ⟨_, rfl⟩ | ⟨z, _⟩
    · rfl
    · exact absurd (al.mpr z) h2
  · rcases q with ⟨z, _⟩ | ⟨z, rfl⟩
    · exact absurd (al.mp h2) z
    · exact (seenL_cg S.bd.1 S.th (g := fun k => M3.2 152 (16 * q0 + k)) eq m1 a 3 ham z).symm
def Q7_drop (M : zM) (x : Int32) (r : Int32) (M2 : zM) : Prop := ∃ nt np ah u len, SX M M nt np ah u len ∧ P7_drop M x r M2
theorem q7_drop {l : Launch} {w : zE} (J : zJ w) {M : zM} {x : Int32} (S : Sim M) : zCi l w yX7_drop cX7_drop 2 (some .int) 1 [.ref (w.2.2 0), .int x] M (Q7_drop M x) := by
  obtain ⟨nt, np, ah, u, len, S⟩ := S
  exact zCi_post (fun r M2 h => ⟨nt, np, ah, u, len, S, h⟩) (t7_drop J)
theorem q8_drop {l : Launch} {w : zE} (J : zJ w) {M M2 : zM} {x : Int32} {r : Int32} (h : Q7_drop M x r M2) : zCi l w yX8_drop cX8_drop 2 (some .int) 2 [.ref (w.2.2 138), .int x] M2 (fun r' M3 => Sim M3 ∧ r' = r) := by
  obtain ⟨nt, np, ah, u, len, S, h⟩ := h
  rcases h with ⟨hx, rfl, rfl⟩ | ⟨hx, h⟩
  · refine zCi_post (fun r' M3 q => ?_) (t8_drop J)
    rcases q with ⟨_, rfl, rfl⟩ | ⟨j, hj, rfl, _⟩
    · exact ⟨S.sim, rfl⟩
    · exact absurd hx (nI4 hj)
  obtain ⟨q0, hq, rfl⟩ := s4_in hx
  have e : (nI q0).toNatClampNeg = q0 := nI_clamp (by omega)
  rw [e] at h
  have H := S.2.2.2.2 q0 hq
  obtain ⟨H1, ⟨L, hL, hA, hB⟩, H3⟩ := H
  rcases h with ⟨h1, rfl, rfl⟩ | ⟨h1, rfl, rfl⟩
  · refine zCi_post (fun r' M3 q => ?_) (t8_drop J)
    rcases q with ⟨z, _⟩ | ⟨j, hj, ej, q⟩
    · exact absurd z hx
    obtain rfl : q0 = j := (nI_eq (by omega) (by omega)).mp ej
    rcases H1 with ⟨_, a2⟩ | ⟨a1, _⟩
    · rw [a2] at q
      rcases q with ⟨_, rfl, rfl⟩ | ⟨z, _⟩
      · exact ⟨S.sim, rfl⟩
      · exact absurd (by decide) z
    · rw [a1] at h1; exact absurd h1 (by decide)
  · have S2 : SX M (zs M (130 + 2 * q0) 0 0) nt np ah u len := S.B (fun b hb => zs_off _ (by omega)) rfl
    refine zCi_post (fun r' M3 q => ?_) (t8_drop J)
    rcases q with ⟨z, _⟩ | ⟨j, hj, ej, q⟩
    · exact absurd z hx
    obtain rfl : q0 = j := (nI_eq (by omega) (by omega)).mp ej
    rw [zs_off _ (show 150 ≠ 130 + 2 * q0 by omega), zs_off _ (show 151 ≠ 130 + 2 * q0 by omega)] at q
    rcases H1 with ⟨a1, _⟩ | ⟨a1, l, hl, a2, a3⟩
    · exact absurd a1 h1
    rw [a3] at q
    rcases q with ⟨z, _⟩ | ⟨_, rfl, rfl⟩
    · exact absurd z (nI_pos (by omega))
    refine ⟨(S.sheets (M3 := zs (zs M (130 + 2 * q0) 0 0) 150 q0 (-1)) (fun b hb => by rw [zs_off _ (by omega), zs_off _ (by omega)]) (fun b hb => by rw [zs_off _ (by omega), zs_off _ (by omega)]) (fun k _ _ _ => by rw [zs_off _ (by decide), zs_off _ (by omega)]) (by rw [zs_off _ (by decide), zs_off _ (by omega)]; exact S.2.1) (fun q hq2 => ?_)).sim, by rw [hB, hA]⟩
    have h151 : (zs (zs M (130 + 2 * q0) 0 0) 150 q0 (-1)).1 151 = M.1 151 := by rw [zs_off _ (by decide), zs_off _ (by omega)]
    have h2 : (zs (zs M (130 + 2 * q0) 0 0) 150 q0 (-1)).2 = M.2 := rfl
    unfold SH1
    rw [h151, h2, zs_off _ (show 130 + 2 * q ≠ 150 by omega), zs_at, zs_off _ (show 150 ≠ 130 + 2 * q0 by omega)]
    by_cases z : q = q0
    · subst z
      rw [zs_at, va_up_self, va_up_self]
      refine ⟨Or.inl ⟨rfl, rfl⟩, ⟨L, hL, ?_, hB⟩, H3⟩
      rw [va_up_ne _ _ (by decide)]
      exact hA
    · rw [zs_off _ (by omega), va_up_ne _ _ z]
      exact S.2.2.2.2 q hq2
def Q7_sheet (M : zM) (x : Int32) (ln : Int32) (n : Int32) (r : Int32) (M2 : zM) : Prop := ∃ nt np ah u len, SX M M nt np ah u len ∧ P7_sheet M x ln n r M2
theorem q7_sheet {l : Launch} {w : zE} (J : zJ w) {M : zM} {x : Int32} {ln : Int32} {n : Int32} (S : Sim M) : zCi l w yX7_sheet cX7_sheet 4 (some .int) 3 [.ref (w.2.2 0), .int x, .int ln, .int n] M (Q7_sheet M x ln n) := by
  obtain ⟨nt, np, ah, u, len, S⟩ := S
  exact zCi_post (fun r M2 h => ⟨nt, np, ah, u, len, S, h⟩) (t7_sheet J)
theorem q8_sheet {l : Launch} {w : zE} (J : zJ w) {M M2 : zM} {x : Int32} {ln : Int32} {n : Int32} {r : Int32} (h : Q7_sheet M x ln n r M2) : zCi l w yX8_sheet cX8_sheet 5 (some .int) 2 [.ref (w.2.2 138), .int x, .int ln, .int n] M2 (fun r' M3 => Sim M3 ∧ r' = r) := by
  obtain ⟨nt, np, ah, u, len, S, h⟩ := h
  rcases h with ⟨hx, rfl, rfl⟩ | ⟨hx, h⟩
  · refine zCi_post (fun r' M3 q => ?_) (t8_sheet J)
    rcases q with ⟨_, rfl, rfl⟩ | ⟨z, _⟩
    · exact ⟨S.sim, rfl⟩
    · exact absurd hx z
  rcases h with ⟨hn, rfl, rfl⟩ | ⟨hn, rfl, rfl⟩
  · refine zCi_post (fun r' M3 q => ?_) (t8_sheet J)
    rcases q with ⟨z, _⟩ | ⟨_, q⟩
    · exact absurd z hx
    rcases q with ⟨_, rfl, rfl⟩ | ⟨j, _, _, z, _⟩
    · exact ⟨S.sim, rfl⟩
    · exact absurd hn z
  obtain ⟨q0, hq, rfl⟩ := s4_in (fun z => hx (Or.inl z))
  obtain ⟨l, hl, rfl⟩ := s4_in (x := ln) (fun z => hx (Or.inr (Or.inl z)))
  obtain ⟨L, hL, rfl⟩ := nI_of2 (M := 16) (n := 16) (x := r) (by decide) hn (Int32.not_lt.mp fun z => hx (Or.inr (Or.inr z)))
  have e : (nI q0).toNatClampNeg = q0 := nI_clamp (by omega)
  rw [e]
  refine zCi_post (fun r' M3 q => ?_) (t8_sheet J)
  rcases q with ⟨z, _⟩ | ⟨_, q⟩
  · exact absurd z hx
  rcases q with ⟨z, _⟩ | ⟨j, hj, ej, _, rfl, rfl⟩
  · exact absurd z hn
  obtain rfl : q0 = j := (nI_eq (by omega) (by omega)).mp ej
  refine ⟨?_, rfl⟩
  have n2 : ∀ (f g : Nat → Int64) (N : zM) (b : Nat), b ≠ 152 → b ≠ 130 + 2 * q0 + 1 → (zya (zs (zs (zya N (130 + 2 * q0 + 1) f) 150 q0 (nI l)) 151 q0 (nI L)) 152 g).2 b = N.2 b := fun f g N b h1 h2 => by
    show va_up (va_up N.2 (130 + 2 * q0 + 1) f) 152 g b = _
    rw [va_up_ne _ _ h1, va_up_ne _ _ h2]
  have m152 : ∀ (f g : Nat → Int64) (N : zM), (zya (zs (zs (zya N (130 + 2 * q0 + 1) f) 150 q0 (nI l)) 151 q0 (nI L)) 152 g).2 152 = g := fun f g N => by
    show va_up (va_up N.2 (130 + 2 * q0 + 1) f) 152 g 152 = g
    exact va_up_self _ _ _
  have mq : ∀ (f g : Nat → Int64) (N : zM), (zya (zs (zs (zya N (130 + 2 * q0 + 1) f) 150 q0 (nI l)) 151 q0 (nI L)) 152 g).2 (130 + 2 * q0 + 1) = f := fun f g N => by
    show va_up (va_up N.2 (130 + 2 * q0 + 1) f) 152 g _ = _
    rw [va_up_ne _ _ (by omega), va_up_self]
  have o152 : (zya (zs (zs (zs M (130 + 2 * q0) 0 1) (130 + 2 * q0) 1 (nI l)) (130 + 2 * q0) 2 (nI L)) (130 + 2 * q0 + 1) (fun _ => 0)).2 152 = M.2 152 := va_up_ne _ _ (by omega)
  rw [o152]
  have e1 : ∀ (f g : Nat → Int64) (b : Nat), b ≠ 130 + 2 * q0 → b ≠ 150 → b ≠ 151 → (zya (zs (zs (zya (zs (zs (zs M (130 + 2 * q0) 0 1) (130 + 2 * q0) 1 (nI l)) (130 + 2 * q0) 2 (nI L)) (130 + 2 * q0 + 1) f) 150 q0 (nI l)) 151 q0 (nI L)) 152 g).1 b = M.1 b := fun f g b h1 h2 h3 => by
    show (zs (zs (zs (zs (zs M (130 + 2 * q0) 0 1) (130 + 2 * q0) 1 (nI l)) (130 + 2 * q0) 2 (nI L)) 150 q0 (nI l)) 151 q0 (nI L)).1 b = _
    rw [zs_off _ h3, zs_off _ h2, zs_off _ h1, zs_off _ h1, zs_off _ h1]
  have f1 : ∀ (f g : Nat → Int64), (zya (zs (zs (zya (zs (zs (zs M (130 + 2 * q0) 0 1) (130 + 2 * q0) 1 (nI l)) (130 + 2 * q0) 2 (nI L)) (130 + 2 * q0 + 1) f) 150 q0 (nI l)) 151 q0 (nI L)) 152 g).1 (130 + 2 * q0) = va_up (va_up (va_up (M.1 (130 + 2 * q0)) 0 1) 1 (nI l)) 2 (nI L) := fun f g => by
    show (zs (zs (zs (zs (zs M (130 + 2 * q0) 0 1) (130 + 2 * q0) 1 (nI l)) (130 + 2 * q0) 2 (nI L)) 150 q0 (nI l)) 151 q0 (nI L)).1 _ = _
    rw [zs_off _ (by omega), zs_off _ (by omega), zs_at, zs_at, zs_at]
  have f150 : ∀ (f g : Nat → Int64), (zya (zs (zs (zya (zs (zs (zs M (130 + 2 * q0) 0 1) (130 + 2 * q0) 1 (nI l)) (130 + 2 * q0) 2 (nI L)) (130 + 2 * q0 + 1) f) 150 q0 (nI l)) 151 q0 (nI L)) 152 g).1 150 = va_up (M.1 150) q0 (nI l) := fun f g => by
    show (zs (zs (zs (zs (zs M (130 + 2 * q0) 0 1) (130 + 2 * q0) 1 (nI l)) (130 + 2 * q0) 2 (nI L)) 150 q0 (nI l)) 151 q0 (nI L)).1 150 = _
    rw [zs_off _ (by omega), zs_at, zs_off _ (by omega), zs_off _ (by omega), zs_off _ (by omega)]
  have f151 : ∀ (f g : Nat → Int64), (zya (zs (zs (zya (zs (zs (zs M (130 + 2 * q0) 0 1) (130 + 2 * q0) 1 (nI l)) (130 + 2 * q0) 2 (nI L)) (130 + 2 * q0 + 1) f) 150 q0 (nI l)) 151 q0 (nI L)) 152 g).1 151 = va_up (M.1 151) q0 (nI L) := fun f g => by
    show (zs (zs (zs (zs (zs M (130 + 2 * q0) 0 1) (130 + 2 * q0) 1 (nI l)) (130 + 2 * q0) 2 (nI L)) 150 q0 (nI l)) 151 q0 (nI L)).1 151 = _
    rw [zs_at, zs_off _ (by omega), zs_off _ (by omega), zs_off _ (by omega), zs_off _ (by omega)]
  refine (S.sheets (fun b hb => e1 _ _ b (by omega) (by omega) (by omega)) (fun b hb => e1 _ _ b (by omega) (by omega) (by omega)) (fun k _ _ _ => congrFun (e1 _ _ 138 (by omega) (by omega) (by omega)) k) ((congrFun (e1 _ _ 138 (by omega) (by omega) (by omega)) 8).trans S.2.1) (fun q hq2 => ?_)).sim
  unfold SH1
  rw [f150, f151, m152]
  by_cases z : q = q0
  · subst z
    rw [f1, mq]
    refine ⟨Or.inr ⟨by simp +decide only [va_g, if_true, if_false], l, hl, by simp +decide only [va_g, if_true, if_false], va_up_self _ _ _⟩, ⟨L, hL, by simp +decide only [va_g, if_true], va_up_self _ _ _⟩, fun i hi => ?_⟩
    rw [zeL_g, if_pos (by omega)]
  · rw [e1 _ _ (130 + 2 * q) (by omega) (by omega) (by omega), n2 _ _ _ (130 + 2 * q + 1) (by omega) (by omega), va_up_ne _ _ z, va_up_ne _ _ z]
    obtain ⟨H1, H2, H3⟩ := S.2.2.2.2 q hq2
    refine ⟨H1, H2, fun i hi => ?_⟩
    rw [zeL_g, if_neg (by omega)]
    exact H3 i hi
def Q7_item (M : zM) (x : Int32) (ln : Int32) (i : Int32) (v : Int64) (r : Int32) (M2 : zM) : Prop := ∃ nt np ah u len, SX M M nt np ah u len ∧ ((x < 0 ∨ 3 < x) ∧ M2 = M ∧ r = -1 ∨ ¬ (x < 0 ∨ 3 < x) ∧ ∃ L, P7_item M L x ln i v r M2)
theorem q7_item {l : Launch} {w : zE} (J : zJ w) {M : zM} {x : Int32} {ln : Int32} {i : Int32} {v : Int64} (S : Sim M) : zCi l w yX7_item cX7_item 7 (some .int) 3 [.ref (w.2.2 0), .int x, .int ln, .int i, .long v] M (Q7_item M x ln i v) := by
  obtain ⟨nt, np, ah, u, len, S⟩ := S
  by_cases hx : x < 0 ∨ 3 < x
  · exact zCi_post (fun r M2 h => ⟨nt, np, ah, u, len, S, Or.inl ⟨hx, h.1, h.2⟩⟩) (b7_item J hx)
  · obtain ⟨q, hq, e⟩ := s4_in hx
    obtain ⟨_, ⟨L, hL, hA, hB⟩, _⟩ := S.2.2.2.2 q hq
    exact zCi_post (fun r M2 h => ⟨nt, np, ah, u, len, S, Or.inr ⟨hx, L, h⟩⟩) (t7_item J (L := L) (by rw [e, nI_clamp (by omega)]; exact hA) hL)
theorem q8_item {l : Launch} {w : zE} (J : zJ w) {M M2 : zM} {x : Int32} {ln : Int32} {i : Int32} {v : Int64} {r : Int32} (h : Q7_item M x ln i v r M2) : zCi l w yX8_item cX8_item 7 (some .int) 2 [.ref (w.2.2 138), .int x, .int ln, .int i, .long v] M2 (fun r' M3 => Sim M3 ∧ r' = r) := by
  obtain ⟨nt, np, ah, u, len, S, h⟩ := h
  rcases h with ⟨hx, rfl, rfl⟩ | ⟨hx, L0, h⟩
  · refine zCi_post (fun r' M3 q => ?_) (t8_item J S.sz)
    rcases q with ⟨_, rfl, rfl⟩ | ⟨z, _⟩
    · exact ⟨S.sim, rfl⟩
    · exact absurd (Or.inl hx) z
  obtain ⟨q0, hq, rfl⟩ := s4_in hx
  have e : (nI q0).toNatClampNeg = q0 := nI_clamp (by omega)
  have H := S.2.2.2.2 q0 hq
  unfold P7_item at h
  rw [e] at h
  by_cases hl : ln < 0 ∨ 3 < ln
  · rw [rowS_l hl] at h
    rcases h with ⟨_, rfl, rfl⟩ | ⟨z, _⟩
    · refine zCi_post (fun r' M3 q => ?_) (t8_item J S.sz)
      rcases q with ⟨_, rfl, rfl⟩ | ⟨z, _⟩
      · exact ⟨S.sim, rfl⟩
      · exact absurd (Or.inr hl) z
    · exact absurd (by decide) z
  rw [rowS_q hq hl, show (1 : Int32) = nI 1 from rfl, row_why H (by omega)] at h
  have hb : ¬ ((nI q0 < 0 ∨ 3 < nI q0) ∨ (ln < 0 ∨ 3 < ln)) := fun y => y.elim hx hl
  rcases h with ⟨h1, rfl, rfl⟩ | ⟨h1, rfl, a, ea, ha, rfl⟩
  · refine zCi_post (fun r' M3 q => ?_) (t8_item J S.sz)
    rcases q with ⟨z, _⟩ | ⟨_, j, hj, ej, q⟩
    · exact absurd z hb
    obtain rfl : q0 = j := (nI_eq (by omega) (by omega)).mp ej
    rcases q with ⟨_, rfl, rfl⟩ | ⟨z, _⟩
    · exact ⟨S.sim, rfl⟩
    · exact absurd h1 z
  have S2 : SX M (zy M (130 + 2 * q0 + 1) a (putF ln v)) nt np ah u len := S.B (fun b hb => rfl) (va_up_ne _ _ (by omega))
  refine zCi_post (fun r' M3 q => ?_) (t8_item J S2.sz)
  rcases q with ⟨z, _⟩ | ⟨_, j, hj, ej, q⟩
  · exact absurd z hb
  obtain rfl : q0 = j := (nI_eq (by omega) (by omega)).mp ej
  rcases q with ⟨z, _⟩ | ⟨_, rfl, a2, ea2, ha2, rfl⟩
  · exact absurd z h1
  obtain rfl : a = a2 := (nI_eq (by omega) (by omega)).mp (ea.symm.trans ea2)
  obtain ⟨H1, ⟨L, hL, hA, hB⟩, H3⟩ := H
  have hw := why_ok (m := 1) (by omega) hB hL h1
  refine ⟨?_, rfl⟩
  have l150 : (zy M (130 + 2 * q0 + 1) a (putF ln v)).1 150 q0 = ln := hw.2.1
  rw [l150]
  refine (S.sheets (M3 := zy (zy M (130 + 2 * q0 + 1) a (putF ln v)) 152 (16 * q0 + a) (putF ln v)) (fun b hb => rfl) (fun b hb => rfl) (fun k _ _ _ => rfl) S.2.1 (fun q hq2 => ?_)).sim
  obtain ⟨G1, G2, G3⟩ := S.2.2.2.2 q hq2
  refine ⟨G1, G2, fun i hi => ?_⟩
  show va_up (va_up M.2 (130 + 2 * q0 + 1) (va_up (M.2 (130 + 2 * q0 + 1)) a (putF ln v))) 152 (va_up (va_up M.2 (130 + 2 * q0 + 1) (va_up (M.2 (130 + 2 * q0 + 1)) a (putF ln v)) 152) (16 * q0 + a) (putF ln v)) (130 + 2 * q + 1) i = va_up (va_up M.2 (130 + 2 * q0 + 1) (va_up (M.2 (130 + 2 * q0 + 1)) a (putF ln v))) 152 (va_up (va_up M.2 (130 + 2 * q0 + 1) (va_up (M.2 (130 + 2 * q0 + 1)) a (putF ln v)) 152) (16 * q0 + a) (putF ln v)) 152 (16 * q + i)
  rw [va_up_self, va_up_ne _ _ (show 130 + 2 * q + 1 ≠ 152 by omega), va_up_ne _ _ (show 152 ≠ 130 + 2 * q0 + 1 by omega)]
  by_cases z : q = q0
  · subst z
    rw [va_up_self, va_g, va_g]
    by_cases y : i = a
    · rw [if_pos y, if_pos (by omega)]
    · rw [if_neg y, if_neg (by omega)]; exact G3 i hi
  · rw [va_up_ne _ _ (by omega), va_up_ne _ _ (by omega)]
    exact G3 i hi
def Q7_film (M : zM) (x : Int32) (ln : Int32) (i : Int32) (r : Int32) (M2 : zM) : Prop := ∃ nt np ah u len, SX M M nt np ah u len ∧ ((x < 0 ∨ 3 < x) ∧ M2 = M ∧ r = -1 ∨ ¬ (x < 0 ∨ 3 < x) ∧ ∃ L, P7_film M np ah L x ln i r M2)
theorem q7_film {l : Launch} {w : zE} (J : zJ w) {M : zM} {x : Int32} {ln : Int32} {i : Int32} (S : Sim M) : zCi l w yX7_film cX7_film 7 (some .int) 5 [.ref (w.2.2 0), .int x, .int ln, .int i] M (Q7_film M x ln i) := by
  obtain ⟨nt, np, ah, u, len, S⟩ := S
  by_cases hx : x < 0 ∨ 3 < x
  · exact zCi_post (fun r M2 h => ⟨nt, np, ah, u, len, S, Or.inl ⟨hx, h.1, h.2⟩⟩) (b7_film J hx)
  · obtain ⟨q, hq, e⟩ := s4_in hx
    obtain ⟨_, ⟨L, hL, hA, hB⟩, _⟩ := S.2.2.2.2 q hq
    exact zCi_post (fun r M2 h => ⟨nt, np, ah, u, len, S, Or.inr ⟨hx, L, h⟩⟩) (t7_film J S.nok (L := L) (by rw [e, nI_clamp (by omega)]; exact hA) hL)
theorem q8_film {l : Launch} {w : zE} (J : zJ w) {M M2 : zM} {x : Int32} {ln : Int32} {i : Int32} {r : Int32} (h : Q7_film M x ln i r M2) : zCi l w yX8_film cX8_film 7 (some .int) 7 [.ref (w.2.2 138), .int x, .int ln, .int i] M2 (fun r' M3 => Sim M3 ∧ r' = r) := by
  obtain ⟨nt, np, ah, u, len, S, h⟩ := h
  have h12 := S.bd.2.2.1
  rcases h with ⟨hx, rfl, rfl⟩ | ⟨hx, L0, h⟩
  · refine zCi_post (fun r' M3 q => ?_) (t8_film J S.rok S.sz)
    rcases q with ⟨_, rfl, rfl⟩ | ⟨z, _⟩
    · exact ⟨S.sim, rfl⟩
    · exact absurd (Or.inl hx) z
  obtain ⟨q0, hq, rfl⟩ := s4_in hx
  have e : (nI q0).toNatClampNeg = q0 := nI_clamp (by omega)
  have H := S.2.2.2.2 q0 hq
  unfold P7_film at h
  rw [e] at h
  by_cases hl : ln < 0 ∨ 3 < ln
  · rw [rowS_l hl] at h
    rcases h with ⟨_, rfl, rfl⟩ | ⟨z, _⟩
    · refine zCi_post (fun r' M3 q => ?_) (t8_film J S.rok S.sz)
      rcases q with ⟨_, rfl, rfl⟩ | ⟨z, _⟩
      · exact ⟨S.sim, rfl⟩
      · exact absurd (Or.inr hl) z
    · exact absurd (by decide) z
  rw [rowS_q hq hl, row_why H (by omega)] at h
  have hb : ¬ ((nI q0 < 0 ∨ 3 < nI q0) ∨ (ln < 0 ∨ 3 < ln)) := fun y => y.elim hx hl
  rcases h with ⟨h1, rfl, rfl⟩ | ⟨h1, rfl, fA, p, ep, hp, f2⟩
  · refine zCi_post (fun r' M3 q => ?_) (t8_film J S.rok S.sz)
    rcases q with ⟨z, _⟩ | ⟨_, j, hj, ej, q⟩
    · exact absurd z hb
    obtain rfl : q0 = j := (nI_eq (by omega) (by omega)).mp ej
    rcases q with ⟨_, rfl, rfl⟩ | ⟨z, _⟩
    · exact ⟨S.sim, rfl⟩
    · exact absurd h1 z
  have m152 : M2.2 152 = M.2 152 := by rw [f2]; exact va_up_ne _ _ (by omega)
  have S2 : SX M M2 nt np ah u len := S.B (fun b hb => fA b (by omega)) m152
  refine zCi_post (fun r' M3 q => ?_) (t8_film J S2.rok S2.sz)
  rcases q with ⟨z, _⟩ | ⟨_, j, hj, ej, q⟩
  · exact absurd z hb
  obtain rfl : q0 = j := (nI_eq (by omega) (by omega)).mp ej
  rw [fA 150 (by omega), fA 151 (by omega)] at q
  rcases q with ⟨z, _⟩ | ⟨_, rfl, p2, ep2, hp2, zg, g2⟩
  · exact absurd z h1
  refine ⟨?_, rfl⟩
  obtain ⟨H1, ⟨L, hL, hA, hB⟩, H3⟩ := H
  have hw := why_ok (m := 12 - ah) (by omega) hB hL h1
  rw [hw.2.1] at g2
  obtain ⟨d, t⟩ := S2.tr
  obtain ⟨_, gA, g8, g88⟩ := zg
  have e1 : ∀ b, b ≠ 138 → b ≠ 146 → b ≠ 147 → b ≠ 148 → (b < 87 ∨ 129 ≤ b) → M3.1 b = M.1 b := fun b k1 k2 k3 k4 k5 => (gA b k1 k2 k3 k4).trans (fA b k5)
  by_cases h0 : 12 - ah = 0
  · rw [h0] at f2 g2
    have f2' : M2.2 = M.2 := f2.trans (va_up_id _ _)
    have g2' : M3.2 = M.2 := (g2.trans (va_up_id _ _)).trans f2'
    refine (S.sheets (fun b hb => e1 b (by omega) (by omega) (by omega) (by omega) (by omega)) (fun b hb => e1 b (by omega) (by omega) (by omega) (by omega) (by omega)) (fun k k1 k2 k3 => (g8 k k1 k2 k3).trans (by rw [fA 138 (by omega)])) g88 (fun q hq2 => ?_)).sim
    unfold SH1
    rw [e1 (130 + 2 * q) (by omega) (by omega) (by omega) (by omega) (by omega), e1 150 (by omega) (by omega) (by omega) (by omega) (by omega), e1 151 (by omega) (by omega) (by omega) (by omega) (by omega), g2']
    exact S.2.2.2.2 q hq2
  obtain rfl : p = p2 := by
    have b1 : p < 2 ^ 31 := by omega
    exact (nI_eq b1 (by omega)).mp (ep.symm.trans ep2)
  rw [m152] at g2
  obtain ⟨F1, F2⟩ := film_cg (q := q0) (ln := ln) S.bd.1 S2.rb S2.th S2.pe (12 - ah) p (M.1 16, -4) (M2.1 141, M2.1 138 18) (M.2 (130 + 2 * q0 + 1)) (M.2 152) hp t H3
  refine (S.sheets (fun b hb => e1 b (by omega) (by omega) (by omega) (by omega) (by omega)) (fun b hb => e1 b (by omega) (by omega) (by omega) (by omega) (by omega)) (fun k k1 k2 k3 => (g8 k k1 k2 k3).trans (by rw [fA 138 (by omega)])) g88 (fun q hq2 => ?_)).sim
  obtain ⟨G1, G2, G3⟩ := S.2.2.2.2 q hq2
  unfold SH1
  rw [e1 (130 + 2 * q) (by omega) (by omega) (by omega) (by omega) (by omega), e1 150 (by omega) (by omega) (by omega) (by omega) (by omega), e1 151 (by omega) (by omega) (by omega) (by omega) (by omega)]
  refine ⟨G1, G2, fun i hi => ?_⟩
  rw [g2, va_up_self, va_up_ne _ _ (show 130 + 2 * q + 1 ≠ 152 by omega), f2]
  by_cases z : q = q0
  · subst z
    rw [va_up_self]
    exact F1 i hi
  · rw [va_up_ne _ _ (by omega), F2 _ (by omega)]
    exact G3 i hi
end
section
/-! deal and copy, in pairs -/
theorem dealT_5 (T : zF1) (f : Nat → Int64) (a k : Nat) {p : Nat} (hp : p < k) : dealT T f a k (5 + p) = if f (a + p) < 0 then -4 else (f (a + p)).toInt32 := by
  unfold dealT
  rw [if_pos (by omega), show 5 + p - 5 = p by omega]
theorem dealT_o (T : zF1) (f : Nat → Int64) (a k : Nat) {q : Nat} (hq : q < 5 ∨ 5 + k ≤ q) : dealT T f a k q = T q := if_neg (by omega)
theorem deal_T {nt np a m : Nat} {T T' : zF1} {f g : Nat → Int64} {d : Int32} (h10 : nt ≤ 10) (h8 : np ≤ 8) (ha : a + np ≤ 16) (t : trx np d s5 T T') (tk : tOK nt np T') (e : ∀ k, k < 16 → f k = g k) (hm : m < 1024) (hb : ∀ t, t < 10 → T' 0 = nI t → nI m >>> (nI t &&& 31) &&& 1 = 1) (hR : dlR g (nI nt) np a (nI m) = true) : trx np d s5 (dealT T f a np) (dealT T' g a np) ∧ tOK nt np (dealT T' g a np) := by
  obtain ⟨t0, t1, t2, t3, t4, t5⟩ := t
  obtain ⟨⟨v0, v5, v2⟩, _, z, b, hb12, h3⟩ := tk
  obtain ⟨u1, u2⟩ := deal_uq h10 np a m hm hR
  refine ⟨⟨?_, ?_, ?_, ?_, ?_, fun p hp => ?_⟩, ⟨?_, fun p hp => ?_, ?_⟩, ⟨fun p hp h => ?_, fun p q hp hq h hn => ?_⟩, fun h => ?_, b, hb12, ?_⟩
  · rw [dealT_o _ _ _ _ (by omega), dealT_o _ _ _ _ (by omega)]; exact t0
  · rw [dealT_o _ _ _ _ (by omega), dealT_o _ _ _ _ (by omega)]; exact t1
  · rw [dealT_o _ _ _ _ (by omega), dealT_o _ _ _ _ (by omega)]; exact t2
  · rw [dealT_o _ _ _ _ (by omega), dealT_o _ _ _ _ (by omega)]; exact t3
  · rw [dealT_o _ _ _ _ (by omega), dealT_o _ _ _ _ (by omega)]; exact t4
  · unfold s5
    rw [dealT_5 _ _ _ _ hp, dealT_5 _ _ _ _ hp, e _ (by omega)]
  · rw [dealT_o _ _ _ _ (by omega)]; exact v0
  · by_cases y : p < np
    · rw [dealT_5 _ _ _ _ y]
      rcases u1 (a + p) (by omega) (by omega) with w | ⟨s, hs, w1, w2, w3⟩
      · rw [if_pos w]; exact Or.inl rfl
      · rw [if_neg (Int64.not_lt.mpr w2), w1]; exact Or.inr ⟨s, hs, rfl⟩
    · rw [dealT_o _ _ _ _ (by omega)]; exact v5 p hp
  · rw [dealT_o _ _ _ _ (by omega)]; exact v2
  · rw [dealT_5 _ _ _ _ hp, dealT_o _ _ _ _ (show 0 < 5 ∨ _ by omega)] at h
    rw [dealT_o _ _ _ _ (show 0 < 5 ∨ _ by omega)]
    rcases u1 (a + p) (by omega) (by omega) with w | ⟨s, hs, w1, w2, w3⟩
    · rw [if_pos w] at h; exact h.symm
    · rw [if_neg (Int64.not_lt.mpr w2), w1] at h
      exact absurd (hb s (by omega) h.symm) w3
  · rw [dealT_5 _ _ _ _ hp, dealT_5 _ _ _ _ hq] at h
    rw [dealT_5 _ _ _ _ hp] at hn
    have np1 : ¬ g (a + p) < 0 := fun y => hn (if_pos y)
    rw [if_neg np1] at h hn
    have nq1 : ¬ g (a + q) < 0 := fun y => by rw [if_pos y] at h; exact hn h
    rw [if_neg nq1] at h
    by_cases y : p = q
    · exact y
    · rcases Nat.lt_or_ge p q with y2 | y2
      · rcases u2 (a + p) (a + q) (by omega) (by omega) (by omega) with w | w | w
        · exact absurd w np1
        · exact absurd w nq1
        · exact absurd h w
      · rcases u2 (a + q) (a + p) (by omega) (by omega) (by omega) with w | w | w
        · exact absurd w nq1
        · exact absurd w np1
        · exact absurd h.symm w
  · rw [dealT_o _ _ _ _ (by omega)] at h ⊢; exact z h
  · rw [dealT_o _ _ _ _ (by omega)]; exact h3
theorem deal_D {nt : Nat} {x : Int32} (h10 : nt ≤ 10) (v : vx nt x) : ∃ m, m < 1024 ∧ (if 0 ≤ x ∧ x < nI nt then (1 : Int32) <<< (x &&& 31) else 0) = nI m ∧ dlD x = nI m ∧ ∀ t, t < 10 → x = nI t → nI m >>> (nI t &&& 31) &&& 1 = 1 := by
  rcases v with rfl | ⟨j, hj, rfl⟩
  · refine ⟨0, by decide, rfl, rfl, fun t ht h => ?_⟩
    exact absurd h.symm ((by decide : ∀ h, h < 10 → ¬ nI h = -4) t ht)
  · obtain ⟨b1, b2⟩ := bit_1 j (by omega)
    have hn : ¬ nI j = -4 := (by decide : ∀ h, h < 10 → ¬ nI h = -4) j (by omega)
    refine ⟨2 ^ j, b2, ?_, ?_, fun t ht h => ?_⟩
    · rw [if_pos ⟨nI_pos' (by omega), nI_lt hj (by omega)⟩, b1]
    · unfold dlD; rw [if_neg hn, b1]
    · obtain rfl : j = t := (nI_eq (by omega) (by omega)).mp h
      rw [bit_n b2 ht, Nat.testBit_two_pow_self]
theorem why_cp {l L m : Nat} {i : Int32} (hl : l < 4) (hL : L ≤ 16) (hm : m < 2 ^ 31) : whyF (nI l) (nI L) (nI l) i (nI m) < 0 ↔ ¬ ∃ a, i = nI a ∧ a + m ≤ L := by
  unfold whyF
  rw [if_neg (nI_pos (by omega)), if_neg (fun y => y rfl)]
  by_cases y : ∃ a, i = nI a ∧ a + m ≤ L
  · rw [if_neg ((rg_nat hL hm).mpr y)]
    exact ⟨fun z => absurd z (by decide), fun z => absurd y z⟩
  · rw [if_pos (Classical.byContradiction fun c => y ((rg_nat hL hm).mp c))]
    exact ⟨fun _ => y, fun _ => by decide⟩
def Q7_deal (M : zM) (x : Int32) (ln : Int32) (i : Int32) (r : Int32) (M2 : zM) : Prop := ∃ nt np ah u len, SX M M nt np ah u len ∧ ((x < 0 ∨ 3 < x) ∧ M2 = M ∧ r = -1 ∨ ¬ (x < 0 ∨ 3 < x) ∧ ∃ L, P7_deal M np L x ln i r M2)
theorem q7_deal {l : Launch} {w : zE} (J : zJ w) {M : zM} {x : Int32} {ln : Int32} {i : Int32} (S : Sim M) : zCi l w yX7_deal cX7_deal 10 (some .int) 3 [.ref (w.2.2 0), .int x, .int ln, .int i] M (Q7_deal M x ln i) := by
  obtain ⟨nt, np, ah, u, len, S⟩ := S
  by_cases hx : x < 0 ∨ 3 < x
  · exact zCi_post (fun r M2 h => ⟨nt, np, ah, u, len, S, Or.inl ⟨hx, h.1, h.2⟩⟩) (b7_deal J hx)
  · obtain ⟨q, hq, e⟩ := s4_in hx
    obtain ⟨_, ⟨L, hL, hA, hB⟩, _⟩ := S.2.2.2.2 q hq
    exact zCi_post (fun r M2 h => ⟨nt, np, ah, u, len, S, Or.inr ⟨hx, L, h⟩⟩) (t7_deal J S.cf.2.1 S.bd.2.1 (L := L) (by rw [e, nI_clamp (by omega)]; exact hA) hL)
theorem q8_deal {l : Launch} {w : zE} (J : zJ w) {M M2 : zM} {x : Int32} {ln : Int32} {i : Int32} {r : Int32} (h : Q7_deal M x ln i r M2) : zCi l w yX8_deal cX8_deal 9 (some .int) 2 [.ref (w.2.2 138), .int x, .int ln, .int i] M2 (fun r' M3 => Sim M3 ∧ r' = r) := by
  obtain ⟨nt, np, ah, u, len, S, h⟩ := h
  have h8 := S.bd.2.1
  rcases h with ⟨hx, rfl, rfl⟩ | ⟨hx, L0, h⟩
  · refine zCi_post (fun r' M3 q => ?_) (t8_deal J S.rf.2.1 S.bd.2.1 S.sz)
    rcases q with ⟨_, rfl, rfl⟩ | ⟨z, _⟩
    · exact ⟨S.sim, rfl⟩
    · exact absurd (Or.inl hx) z
  obtain ⟨q0, hq, rfl⟩ := s4_in hx
  have e : (nI q0).toNatClampNeg = q0 := nI_clamp (by omega)
  have H := S.2.2.2.2 q0 hq
  unfold P7_deal at h
  rw [e] at h
  by_cases hl : ln < 0 ∨ 3 < ln
  · rw [rowS_l hl] at h
    rcases h with ⟨_, rfl, rfl⟩ | ⟨z, _⟩
    · refine zCi_post (fun r' M3 q => ?_) (t8_deal J S.rf.2.1 S.bd.2.1 S.sz)
      rcases q with ⟨_, rfl, rfl⟩ | ⟨z, _⟩
      · exact ⟨S.sim, rfl⟩
      · exact absurd (Or.inr hl) z
    · exact absurd (by decide) z
  obtain ⟨d, t⟩ := S.tr
  obtain ⟨m, hm, hD1, hD2, hD3⟩ := deal_D S.bd.1 S.tk.1.1
  rw [rowS_q hq hl, row_why H (by omega), S.cf.1, t.1, hD1] at h
  have hb : ¬ ((nI q0 < 0 ∨ 3 < nI q0) ∨ (ln < 0 ∨ 3 < ln)) := fun y => y.elim hx hl
  rcases h with ⟨h1, rfl, rfl⟩ | ⟨h1, a, ea, ha, h⟩
  · refine zCi_post (fun r' M3 q => ?_) (t8_deal J S.rf.2.1 S.bd.2.1 S.sz)
    rcases q with ⟨z, _⟩ | ⟨_, j, hj, ej, q⟩
    · exact absurd z hb
    obtain rfl : q0 = j := (nI_eq (by omega) (by omega)).mp ej
    rcases q with ⟨_, rfl, rfl⟩ | ⟨z, _⟩
    · exact ⟨S.sim, rfl⟩
    · exact absurd h1 z
  have eq := H.2.2
  rw [deal_cg (g := fun k => M.2 152 (16 * q0 + k)) S.bd.1 eq np a m ha hm] at h
  rcases h with ⟨h2, rfl, rfl⟩ | ⟨h2, rfl, rfl⟩
  · refine zCi_post (fun r' M3 q => ?_) (t8_deal J S.rf.2.1 S.bd.2.1 S.sz)
    unfold P8_deal at q
    rw [S.rf.1, hD2] at q
    rcases q with ⟨z, _⟩ | ⟨_, j, hj, ej, q⟩
    · exact absurd z hb
    obtain rfl : q0 = j := (nI_eq (by omega) (by omega)).mp ej
    rcases q with ⟨z, _⟩ | ⟨_, a2, ea2, ha2, q⟩
    · exact absurd z h1
    obtain rfl : a = a2 := (nI_eq (by omega) (by omega)).mp (ea.symm.trans ea2)
    rcases q with ⟨_, rfl, rfl⟩ | ⟨z, _⟩
    · exact ⟨S.sim, rfl⟩
    · exact absurd z h2
  have S2 : SX M (za M 16 (dealT (M.1 16) (M.2 (130 + 2 * q0 + 1)) a np)) nt np ah u len := S.B (fun b hb => za_off _ (by omega)) rfl
  have e141 : (za M 16 (dealT (M.1 16) (M.2 (130 + 2 * q0 + 1)) a np)).1 141 = M.1 141 := za_off _ (by decide)
  have e150 : (za M 16 (dealT (M.1 16) (M.2 (130 + 2 * q0 + 1)) a np)).1 150 = M.1 150 := za_off _ (by decide)
  have e151 : (za M 16 (dealT (M.1 16) (M.2 (130 + 2 * q0 + 1)) a np)).1 151 = M.1 151 := za_off _ (by decide)
  have e22 : (za M 16 (dealT (M.1 16) (M.2 (130 + 2 * q0 + 1)) a np)).2 = M.2 := rfl
  refine zCi_post (fun r' M3 q => ?_) (t8_deal J S2.rf.2.1 S2.bd.2.1 S2.sz)
  unfold P8_deal at q
  rw [S2.rf.1, e141, e150, e151, e22, hD2] at q
  rcases q with ⟨z, _⟩ | ⟨_, j, hj, ej, q⟩
  · exact absurd z hb
  obtain rfl : q0 = j := (nI_eq (by omega) (by omega)).mp ej
  rcases q with ⟨z, _⟩ | ⟨_, a2, ea2, ha2, q⟩
  · exact absurd z h1
  obtain rfl : a = a2 := (nI_eq (by omega) (by omega)).mp (ea.symm.trans ea2)
  rcases q with ⟨z, _⟩ | ⟨_, rfl, rfl⟩
  · rw [h2] at z; exact absurd z (by decide)
  obtain ⟨dt, dk⟩ := deal_T (g := fun k => M.2 152 (16 * q0 + k)) S.bd.1 h8 ha t S.tk eq hm hD3 h2
  have e : ∀ bb, bb ≠ 16 → bb ≠ 141 → (za (za M 16 (dealT (M.1 16) (M.2 (130 + 2 * q0 + 1)) a np)) 141 (dealT (M.1 141) (fun k => M.2 152 (16 * q0 + k)) a np)).1 bb = M.1 bb := fun bb h0 h1 => by rw [za_off _ h1, za_off _ h0]
  have W : WN (za (za M 16 (dealT (M.1 16) (M.2 (130 + 2 * q0 + 1)) a np)) 141 (dealT (M.1 141) (fun k => M.2 152 (16 * q0 + k)) a np)) (za (za M 16 (dealT (M.1 16) (M.2 (130 + 2 * q0 + 1)) a np)) 141 (dealT (M.1 141) (fun k => M.2 152 (16 * q0 + k)) a np)) nt np ah u := WN.mk (S.bd) ⟨(by simp +decide only [zs_g, za_g, false_and, if_true, if_false] <;> exact S.cf.1), (by simp +decide only [zs_g, za_g, false_and, if_true, if_false] <;> exact S.cf.2.1), (by simp +decide only [zs_g, za_g, false_and, if_true, if_false] <;> exact S.cf.2.2.1), (by simp +decide only [zs_g, za_g, false_and, if_true, if_false] <;> exact S.cf.2.2.2.1), (by simp +decide only [zs_g, za_g, false_and, if_true, if_false] <;> exact S.cf.2.2.2.2)⟩ ⟨(by simp +decide only [zs_g, za_g, false_and, if_true, if_false] <;> exact S.rf.1), (by simp +decide only [zs_g, za_g, false_and, if_true, if_false] <;> exact S.rf.2.1), (by simp +decide only [zs_g, za_g, false_and, if_true, if_false] <;> exact S.rf.2.2)⟩ ⟨(by rw [e 3 (by decide) (by decide), e 139 (by decide) (by decide)]; exact S.th), (by rw [e 14 (by decide) (by decide), e 140 (by decide) (by decide)]; exact S.pe)⟩ (by rw [za_off _ (by decide), za_at, za_at]; exact ⟨d, dt⟩) (S.1.past (e 18 (by decide) (by decide)) (fun k hk => e _ (by omega) (by omega)) (e 145 (by decide) (by decide))) ⟨(by rw [e 139 (by decide) (by decide)]; exact S.kd.1), (by rw [e 139 (by decide) (by decide)]; exact S.kd.2.1), (by rw [e 140 (by decide) (by decide)]; exact S.kd.2.2)⟩ ⟨(by rw [za_at]; exact dk), (by rw [za_at, dealT_o _ _ _ _ (by omega)]; exact S.ta)⟩
  have SS := S.world (M3 := za (za M 16 (dealT (M.1 16) (M.2 (130 + 2 * q0 + 1)) a np)) 141 (dealT (M.1 141) (fun k => M.2 152 (16 * q0 + k)) a np)) (fun bb h1 h2 h3 => e bb (by omega) (by omega)) (fun bb h1 => e bb (by omega) (by omega)) (fun k hk => by rcases hk with rfl | rfl <;> simp +decide only [zs_g, za_g, false_and, if_true, if_false]) (by simp +decide only [zs_g, za_g, false_and, if_true, if_false] <;> exact S.2.1) rfl W
  exact ⟨SS.sim, rfl⟩
def Q7_copy (M : zM) (x : Int32) (i : Int32) (y : Int32) (j : Int32) (n : Int32) (r : Int32) (M2 : zM) : Prop := ∃ nt np ah u len, SX M M nt np ah u len ∧ (((x < 0 ∨ 3 < x) ∨ (y < 0 ∨ 3 < y)) ∧ M2 = M ∧ r = -1 ∨ ¬ ((x < 0 ∨ 3 < x) ∨ (y < 0 ∨ 3 < y)) ∧ ∃ L1 L2, P7_copy M L1 L2 x i y j n r M2)
theorem q7_copy {l : Launch} {w : zE} (J : zJ w) {M : zM} {x : Int32} {i : Int32} {y : Int32} {j : Int32} {n : Int32} (S : Sim M) : zCi l w yX7_copy cX7_copy 8 (some .int) 3 [.ref (w.2.2 0), .int x, .int i, .int y, .int j, .int n] M (Q7_copy M x i y j n) := by
  obtain ⟨nt, np, ah, u, len, S⟩ := S
  by_cases hx : (x < 0 ∨ 3 < x) ∨ (y < 0 ∨ 3 < y)
  · exact zCi_post (fun r M2 h => ⟨nt, np, ah, u, len, S, Or.inl ⟨hx, h.1, h.2⟩⟩) (b7_copy J hx)
  · obtain ⟨q, hq, e⟩ := s4_in (fun z => hx (Or.inl z))
    obtain ⟨p, hp, e2⟩ := s4_in (x := y) (fun z => hx (Or.inr z))
    obtain ⟨_, ⟨L, hL, hA, hB⟩, _⟩ := S.2.2.2.2 q hq
    obtain ⟨_, ⟨L2, hL2, hA2, hB2⟩, _⟩ := S.2.2.2.2 p hp
    exact zCi_post (fun r M2 h => ⟨nt, np, ah, u, len, S, Or.inr ⟨hx, L, L2, h⟩⟩) (t7_copy J (L1 := L) (L2 := L2) (by rw [e, nI_clamp (by omega)]; exact hA) hL (by rw [e2, nI_clamp (by omega)]; exact hA2) hL2)
theorem q8_copy {l : Launch} {w : zE} (J : zJ w) {M M2 : zM} {x : Int32} {i : Int32} {y : Int32} {j : Int32} {n : Int32} {r : Int32} (h : Q7_copy M x i y j n r M2) : zCi l w yX8_copy cX8_copy 7 (some .int) 2 [.ref (w.2.2 138), .int x, .int i, .int y, .int j, .int n] M2 (fun r' M3 => Sim M3 ∧ r' = r) := by
  obtain ⟨nt, np, ah, u, len, S, h⟩ := h
  rcases h with ⟨hx, rfl, rfl⟩ | ⟨hx, L0, L00, h⟩
  · refine zCi_post (fun r' M3 q => ?_) (t8_copy J S.sz)
    rcases q with ⟨_, rfl, rfl⟩ | ⟨z, _⟩
    · exact ⟨S.sim, rfl⟩
    · exact absurd hx z
  obtain ⟨q0, hq, rfl⟩ := s4_in (fun z => hx (Or.inl z))
  obtain ⟨p0, hp, rfl⟩ := s4_in (x := y) (fun z => hx (Or.inr z))
  have e : (nI q0).toNatClampNeg = q0 := nI_clamp (by omega)
  have e2 : (nI p0).toNatClampNeg = p0 := nI_clamp (by omega)
  unfold P7_copy at h
  rw [e, e2] at h
  obtain ⟨H1, ⟨L, hL, hA, hB⟩, H3⟩ := S.2.2.2.2 q0 hq
  obtain ⟨G1, ⟨K, hK, gA, gB⟩, G3⟩ := S.2.2.2.2 p0 hp
  have h0 : M.1 (130 + 2 * q0) 0 = 0 ↔ M.1 150 q0 < 0 := by
    rcases H1 with ⟨a1, a2⟩ | ⟨a1, l, hl, a2, a3⟩
    · rw [a1, a2]; exact ⟨fun _ => by decide, fun _ => rfl⟩
    · rw [a1, a3]; exact ⟨fun z => absurd z (by decide), fun z => absurd z (nI_pos (by omega))⟩
  have g0 : M.1 (130 + 2 * p0) 0 = 0 ↔ M.1 150 p0 < 0 := by
    rcases G1 with ⟨a1, a2⟩ | ⟨a1, l, hl, a2, a3⟩
    · rw [a1, a2]; exact ⟨fun _ => by decide, fun _ => rfl⟩
    · rw [a1, a3]; exact ⟨fun z => absurd z (by decide), fun z => absurd z (nI_pos (by omega))⟩
  rw [h0, g0] at h
  rcases h with ⟨z, _⟩ | ⟨_, h⟩
  · exact absurd z hx
  rcases h with ⟨h1, rfl, rfl⟩ | ⟨h1, h⟩
  · refine zCi_post (fun r' M3 q => ?_) (t8_copy J S.sz)
    rcases q with ⟨z, _⟩ | ⟨_, j1, j2, hj1, hj2, ej1, ej2, q⟩
    · exact absurd z hx
    obtain rfl : q0 = j1 := (nI_eq (by omega) (by omega)).mp ej1
    obtain rfl : p0 = j2 := (nI_eq (by omega) (by omega)).mp ej2
    rcases q with ⟨_, rfl, rfl⟩ | ⟨z, _⟩
    · exact ⟨S.sim, rfl⟩
    · exact absurd h1 z
  obtain ⟨l, hl, h150, hl1⟩ : ∃ l, l < 4 ∧ M.1 150 q0 = nI l ∧ M.1 (130 + 2 * q0) 1 = nI l := by
    rcases H1 with ⟨a1, a2⟩ | ⟨a1, l, hl, a2, a3⟩
    · exact absurd (Or.inl (by rw [a2]; decide)) h1
    · exact ⟨l, hl, a3, a2⟩
  obtain ⟨l2, hl2, g150, gl1⟩ : ∃ l, l < 4 ∧ M.1 150 p0 = nI l ∧ M.1 (130 + 2 * p0) 1 = nI l := by
    rcases G1 with ⟨a1, a2⟩ | ⟨a1, l, hl, a2, a3⟩
    · exact absurd (Or.inr (by rw [a2]; decide)) h1
    · exact ⟨l, hl, a3, a2⟩
  rw [hl1, gl1, hA, gA] at h
  rw [h150, g150] at h1
  rcases h with ⟨h2, rfl, rfl⟩ | ⟨h2, h⟩
  · refine zCi_post (fun r' M3 q => ?_) (t8_copy J S.sz)
    rcases q with ⟨z, _⟩ | ⟨_, j1, j2, hj1, hj2, ej1, ej2, q⟩
    · exact absurd z hx
    obtain rfl : q0 = j1 := (nI_eq (by omega) (by omega)).mp ej1
    obtain rfl : p0 = j2 := (nI_eq (by omega) (by omega)).mp ej2
    rw [h150, g150] at q
    rcases q with ⟨z, _⟩ | ⟨_, q⟩
    · exact absurd z h1
    rcases q with ⟨_, rfl, rfl⟩ | ⟨z, _⟩
    · exact ⟨S.sim, rfl⟩
    · exact absurd z h2
  obtain rfl : l = l2 := (nI_eq (by omega) (by omega)).mp h2
  have cond : ((0 ≤ i ∧ 0 ≤ n ∧ n ≤ nI L ∧ i ≤ nI L - n) ∧ (0 ≤ j ∧ 0 ≤ n ∧ n ≤ nI K ∧ j ≤ nI K - n)) ↔ ¬ (n < 0 ∨ whyF (nI l) (nI L) (nI l) i n < 0 ∨ whyF (nI l) (nI K) (nI l) j n < 0) := by
    by_cases hn : n < 0
    · exact ⟨fun z => absurd z.1.2.1 (Int32.not_le.mpr hn), fun z => absurd (Or.inl hn) z⟩
    · obtain ⟨m, hm, rfl⟩ := nI_of hn
      rw [rg_cl hL hm, rg_cl hK hm, why_cp hl hL hm, why_cp hl hK hm]
      constructor
      · rintro ⟨a1, a2⟩ z
        rcases z with z | z | z
        · exact hn z
        · exact z a1
        · exact z a2
      · intro z
        exact ⟨Classical.byContradiction fun c => z (Or.inr (Or.inl c)), Classical.byContradiction fun c => z (Or.inr (Or.inr c))⟩
  rcases h with ⟨h3, rfl, rfl⟩ | ⟨h3, rfl, a, b, k, ea, eb, ek, hak, hbk, rfl⟩
  · refine zCi_post (fun r' M3 q => ?_) (t8_copy J S.sz)
    rcases q with ⟨z, _⟩ | ⟨_, j1, j2, hj1, hj2, ej1, ej2, q⟩
    · exact absurd z hx
    obtain rfl : q0 = j1 := (nI_eq (by omega) (by omega)).mp ej1
    obtain rfl : p0 = j2 := (nI_eq (by omega) (by omega)).mp ej2
    rw [h150, g150, hB, gB] at q
    rcases q with ⟨z, _⟩ | ⟨_, q⟩
    · exact absurd z h1
    rcases q with ⟨z, _⟩ | ⟨_, q⟩
    · exact absurd rfl z
    rcases q with ⟨_, rfl, rfl⟩ | ⟨z, _⟩
    · exact ⟨S.sim, rfl⟩
    · exact absurd (cond.mpr z) h3
  have m152 : (zya M (130 + 2 * p0 + 1) (va_cpy (M.2 (130 + 2 * q0 + 1)) (M.2 (130 + 2 * p0 + 1)) a b k)).2 152 = M.2 152 := va_up_ne _ _ (by omega)
  have S2 : SX M (zya M (130 + 2 * p0 + 1) (va_cpy (M.2 (130 + 2 * q0 + 1)) (M.2 (130 + 2 * p0 + 1)) a b k)) nt np ah u len := S.B (fun b hb => rfl) m152
  refine zCi_post (fun r' M3 q => ?_) (t8_copy J S2.sz)
  rcases q with ⟨z, _⟩ | ⟨_, j1, j2, hj1, hj2, ej1, ej2, q⟩
  · exact absurd z hx
  obtain rfl : q0 = j1 := (nI_eq (by omega) (by omega)).mp ej1
  obtain rfl : p0 = j2 := (nI_eq (by omega) (by omega)).mp ej2
  rw [show (zya M (130 + 2 * p0 + 1) (va_cpy (M.2 (130 + 2 * q0 + 1)) (M.2 (130 + 2 * p0 + 1)) a b k)).1 = M.1 from rfl, h150, g150, hB, gB, m152] at q
  rcases q with ⟨z, _⟩ | ⟨_, q⟩
  · exact absurd z h1
  rcases q with ⟨z, _⟩ | ⟨_, q⟩
  · exact absurd rfl z
  rcases q with ⟨z, _⟩ | ⟨_, rfl, a2, b2, k2, ea2, eb2, ek2, hak2, hbk2, rfl⟩
  · exact absurd z (cond.mp h3)
  obtain rfl : a = a2 := (nI_eq (by omega) (by omega)).mp (ea.symm.trans ea2)
  obtain rfl : b = b2 := (nI_eq (by omega) (by omega)).mp (eb.symm.trans eb2)
  obtain rfl : k = k2 := (nI_eq (by omega) (by omega)).mp (ek.symm.trans ek2)
  refine ⟨?_, rfl⟩
  generalize hG : mvL (M.2 152) (16 * q0 + a) ((zya M (130 + 2 * p0 + 1) (va_cpy (M.2 (130 + 2 * q0 + 1)) (M.2 (130 + 2 * p0 + 1)) a b k)).2 153) 0 k = G
  have gG : ∀ i, i < k → G i = M.2 152 (16 * q0 + a + i) := fun i hi => by rw [← hG, mvL_g, if_pos (by omega), Nat.sub_zero]
  have z2 : ∀ c, c ≠ 152 → c ≠ 153 → c ≠ 130 + 2 * p0 + 1 → (zya (zya (zya M (130 + 2 * p0 + 1) (va_cpy (M.2 (130 + 2 * q0 + 1)) (M.2 (130 + 2 * p0 + 1)) a b k)) 153 G) 152 (mvL G 0 (M.2 152) (16 * p0 + b) k)).2 c = M.2 c := fun c c1 c2 c3 => by
    show va_up (va_up (va_up M.2 (130 + 2 * p0 + 1) _) 153 G) 152 _ c = _
    rw [va_up_ne _ _ c1, va_up_ne _ _ c2, va_up_ne _ _ c3]
  have zp : (zya (zya (zya M (130 + 2 * p0 + 1) (va_cpy (M.2 (130 + 2 * q0 + 1)) (M.2 (130 + 2 * p0 + 1)) a b k)) 153 G) 152 (mvL G 0 (M.2 152) (16 * p0 + b) k)).2 (130 + 2 * p0 + 1) = va_cpy (M.2 (130 + 2 * q0 + 1)) (M.2 (130 + 2 * p0 + 1)) a b k := by
    show va_up (va_up (va_up M.2 (130 + 2 * p0 + 1) (va_cpy (M.2 (130 + 2 * q0 + 1)) (M.2 (130 + 2 * p0 + 1)) a b k)) 153 G) 152 (mvL G 0 (M.2 152) (16 * p0 + b) k) (130 + 2 * p0 + 1) = _
    rw [va_up_ne _ _ (by omega), va_up_ne _ _ (by omega), va_up_self]
  have z152 : (zya (zya (zya M (130 + 2 * p0 + 1) (va_cpy (M.2 (130 + 2 * q0 + 1)) (M.2 (130 + 2 * p0 + 1)) a b k)) 153 G) 152 (mvL G 0 (M.2 152) (16 * p0 + b) k)).2 152 = mvL G 0 (M.2 152) (16 * p0 + b) k := by
    show va_up (va_up (va_up M.2 (130 + 2 * p0 + 1) (va_cpy (M.2 (130 + 2 * q0 + 1)) (M.2 (130 + 2 * p0 + 1)) a b k)) 153 G) 152 (mvL G 0 (M.2 152) (16 * p0 + b) k) 152 = _
    exact va_up_self _ _ _
  refine (S.sheets (M3 := zya (zya (zya M (130 + 2 * p0 + 1) (va_cpy (M.2 (130 + 2 * q0 + 1)) (M.2 (130 + 2 * p0 + 1)) a b k)) 153 G) 152 (mvL G 0 (M.2 152) (16 * p0 + b) k)) (fun b hb => rfl) (fun b hb => rfl) (fun k _ _ _ => rfl) S.2.1 (fun q hq2 => ?_)).sim
  obtain ⟨J1, J2, J3⟩ := S.2.2.2.2 q hq2
  refine ⟨J1, J2, fun i hi => ?_⟩
  rw [z152]
  by_cases z : q = p0
  · subst z
    rw [zp, mvL_g]
    by_cases c : b ≤ i ∧ i < b + k
    · rw [pk_cpy_in c.1 c.2, if_pos (by omega), Nat.zero_add, show 16 * q + i - (16 * q + b) = i - b by omega, gG _ (by omega), H3 _ (by omega), Nat.add_assoc]
    · rw [pk_cpy_out (by omega), if_neg (by omega)]
      exact J3 i hi
  · rw [z2 _ (by omega) (by omega) (by omega), mvL_g, if_neg (by omega)]
    exact J3 i hi
end
section
/-- nothing but the tape's own blocks differs -/
def ztg (M M' : zM) : Prop := M'.2 = M.2 ∧ ∀ b, (b < 69 ∨ b = 70 ∨ 87 ≤ b) → M'.1 b = M.1 b
theorem e_X7_road {l : Launch} {w : zE} (J : zJ w) {M : zM} {o len : Nat} (hk : zk o = 7) (ho : o = 0) (hl : M.1 (o + 69) 1 = nI len) (h120 : len ≤ 120) (hL : ltOK (M.1 (o + 69 + 1)) len) : zCi l w yX7_road cX7_road 2 (some .int) 7 [.ref (w.2.2 o)] M (fun r M2 =>
    ((roadF (M.1 (o + 69 + 1)) len (M.1 (o + 1 + 1 + 1)) (M.1 (o + 1 + 1 + 12)) (tT0 (M.1 (o + 1 + 15)))).1 = 0 ∧ r = -20 - nI (roadF (M.1 (o + 69 + 1)) len (M.1 (o + 1 + 1 + 1)) (M.1 (o + 1 + 1 + 12)) (tT0 (M.1 (o + 1 + 15)))).2.1 ∧ ztg M M2 ∧ M2.1 (o + 69) 1 = 0)
    ∨ (¬ (roadF (M.1 (o + 69 + 1)) len (M.1 (o + 1 + 1 + 1)) (M.1 (o + 1 + 1 + 12)) (tT0 (M.1 (o + 1 + 15)))).1 = 0 ∧ ∃ (M1 : zM) (S : zRd), S = (roadF (M.1 (o + 69 + 1)) len (M.1 (o + 1 + 1 + 1)) (M.1 (o + 1 + 1 + 12)) (tT0 (M.1 (o + 1 + 15)))).2.2 ∧ r = nI S.1 ∧ ztg M M1 ∧ M1.1 (o + 69) 1 = 0 ∧ M2 = zs (za (zrd M1 (o + 1 + 1) (va_up (va_up (M.1 (o + 1 + 1)) 0 (nI S.1)) 1 (nI S.2.2.1)) S.2.1 S.2.2.2.1) (o + 1 + 15) S.2.2.2.2) (o + 1) 3 0)) := by
  refine zCi_of J zm_X7_road [some (.ref (w.2.2 o)), none] (Nat.le_of_ble_eq_true rfl) rfl (fun g hg F X => ?_)
  subst hg
  generalize hR : roadF (M.1 (o + 69 + 1)) len (M.1 (o + 1 + 1 + 1)) (M.1 (o + 1 + 1 + 12)) (tT0 (M.1 (o + 1 + 15))) = R at X
  refine z_aload_n F dX7_road_0 rfl ?_
  refine zg_X7_tape F (by with_reducible assumption) fl_X7_22 dX7_road_1 (fun hk_1 => ?_)
  refine z_aload_n F dX7_road_4 rfl ?_
  refine zg_X7_now F (by with_reducible assumption) fl_X7_10 dX7_road_5 (fun hk_5 => ?_)
  refine z_callVi F (c_X3_readRoad J (by with_reducible assumption) (by with_reducible assumption) (by omega) (by omega) hl h120 hL) zm_X3_readRoad zv_X3_readRoad ml_X7_155 (by with_reducible assumption) (by decide) rfl rfl rfl (Nat.le_of_ble_eq_true rfl) dX7_road_8 (by omega) (fun r_8 M_8 h_8 => ?_)
  rw [hR] at h_8
  obtain ⟨rfl, S, hS, hS2⟩ := h_8
  have t1 : ztg M (zs M_8 (o + 69) 1 0) := ⟨hS.2.2.2.2.2.1, fun b q => by rw [zs_off _ (by omega)]; exact hS.2.2.2.2.2.2 b (by omega) (by omega) (by omega) (by omega) (by omega) (by omega)⟩
  have t2 : (zs M_8 (o + 69) 1 0).1 (o + 69) 1 = 0 := by rw [zs_at, va_up_self]
  have t3 : (zs M_8 (o + 69) 1 0).1 (o + 69) 2 = nI R.2.1 := by rw [zs_at, va_up_ne _ _ (by decide), hS.1, va_up_self]
  have t4 : (zs M_8 (o + 69) 1 0).1 (o + 69 + 2) = va_up (va_up (M.1 (o + 1 + 1)) 0 (nI S.1)) 1 (nI S.2.2.1) := by rw [zs_off _ (by omega), hS.2.1]
  have t5 : (zs M_8 (o + 69) 1 0).1 (o + 69 + 2 + 1) = S.2.1 := by rw [zs_off _ (by omega), hS.2.2.1]
  have t6 : (zs M_8 (o + 69) 1 0).1 (o + 69 + 2 + 12) = S.2.2.2.1 := by rw [zs_off _ (by omega), hS.2.2.2.1]
  have t7 : (zs M_8 (o + 69) 1 0).1 (o + 69 + 16) = S.2.2.2.2 := by rw [zs_off _ (by omega), hS.2.2.2.2.1]
  refine z_istore_n (lv' := [_, _]) F dX7_road_11 (by decide) rfl rfl ?_
  refine z_aload_n F dX7_road_12 rfl ?_
  refine zg_X7_tape F (by with_reducible assumption) fl_X7_22 dX7_road_13 (fun hk_13 => ?_)
  refine z_iconst (v := 0) F dX7_road_16 (by decide) ?_
  refine zp_X3_length F (by with_reducible assumption) fl_X7_148 dX7_road_17 ?_
  generalize zs M_8 (o + 69) 1 0 = M1 at t1 t2 t3 t4 t5 t6 t7 ⊢
  refine z_iload_n F dX7_road_20 rfl ?_
  refine z_if_ne (tgt := 35) F dX7_road_21 (by decide) (fun h_21 => ?_) (fun h_21 => ?_)
  · try simp only [t3] at h_21
    refine z_aload_n F dX7_road_35 rfl ?_
    refine zg_X7_now F (by with_reducible assumption) fl_X7_10 dX7_road_36 (fun hk_36 => ?_)
    refine zg_X6_road F (by with_reducible assumption) fl_X7_44 dX7_road_39 (fun hk_39 => ?_)
    refine z_aload_n F dX7_road_42 rfl ?_
    refine zg_X7_tape F (by with_reducible assumption) fl_X7_22 dX7_road_43 (fun hk_43 => ?_)
    refine zg_X3_road F (by with_reducible assumption) fl_X7_162 dX7_road_46 (fun hk_46 => ?_)
    refine z_callVv F (d_X1_setFrom J (by with_reducible assumption) (by with_reducible assumption) (by omega)) zm_X1_setFrom zv_X1_setFrom ml_X7_163 (by with_reducible assumption) (by decide) rfl rfl rfl (Nat.le_of_ble_eq_true rfl) dX7_road_49 (by omega) (fun M_49 h_49 => ?_)
    replace h_49 := Eq.symm h_49
    subst h_49
    rw [t4, t5, t6]
    have u1 : (zrd M1 (o + 1 + 1) (va_up (va_up (M.1 (o + 1 + 1)) 0 (nI S.1)) 1 (nI S.2.2.1)) S.2.1 S.2.2.2.1).1 (o + 69 + 16) = S.2.2.2.2 := by unfold zrd; rw [za_off _ (by omega), za_off _ (by omega), za_off _ (by omega), t7]
    have u2 : ∀ h, (zs (za (zrd M1 (o + 1 + 1) (va_up (va_up (M.1 (o + 1 + 1)) 0 (nI S.1)) 1 (nI S.2.2.1)) S.2.1 S.2.2.2.1) (o + 1 + 15) h) (o + 1) 3 0).1 (o + 1 + 1) 0 = nI S.1 := fun h => by unfold zrd; rw [zs_off _ (by omega), za_off _ (by omega), za_at]; rfl
    refine z_aload_n F dX7_road_52 rfl ?_
    refine zg_X7_now F (by with_reducible assumption) fl_X7_10 dX7_road_53 (fun hk_53 => ?_)
    refine zg_X6_trip F (by with_reducible assumption) fl_X7_83 dX7_road_56 (fun hk_56 => ?_)
    refine z_aload_n F dX7_road_59 rfl ?_
    refine zg_X7_tape F (by with_reducible assumption) fl_X7_22 dX7_road_60 (fun hk_60 => ?_)
    refine zg_X3_trip F (by with_reducible assumption) fl_X7_167 dX7_road_63 (fun hk_63 => ?_)
    refine z_callVv F (d_X5_setFrom J (by with_reducible assumption) (by with_reducible assumption) (by omega)) zm_X5_setFrom zv_X5_setFrom ml_X7_168 (by with_reducible assumption) (by decide) rfl rfl rfl (Nat.le_of_ble_eq_true rfl) dX7_road_66 (by omega) (fun M_66 h_66 => ?_)
    replace h_66 := Eq.symm h_66
    subst h_66
    rw [u1]
    refine z_aload_n F dX7_road_69 rfl ?_
    refine zg_X7_now F (by with_reducible assumption) fl_X7_10 dX7_road_70 (fun hk_70 => ?_)
    refine z_iconst (v := 0) F dX7_road_73 (by decide) ?_
    refine zp_X6_known F (by with_reducible assumption) fl_X7_54 dX7_road_74 ?_
    refine z_aload_n F dX7_road_77 rfl ?_
    refine zg_X7_now F (by with_reducible assumption) fl_X7_10 dX7_road_78 (fun hk_78 => ?_)
    refine zg_X6_road F (by with_reducible assumption) fl_X7_44 dX7_road_81 (fun hk_81 => ?_)
    refine zg_X1_thingCount F (by with_reducible assumption) fl_X7_48 dX7_road_84 ?_
    try simp only [t3]
    refine z_iret F X dX7_road_87 ?_
    rw [u2]
    exact Or.inr ⟨h_21, M1, S, hS2 h_21, rfl, t1, t2, rfl⟩
  · try simp only [t3] at h_21
    refine z_bipush (v := (-20)) F dX7_road_24 (by decide) ?_
    refine z_aload_n F dX7_road_26 rfl ?_
    refine zg_X7_tape F (by with_reducible assumption) fl_X7_22 dX7_road_27 (fun hk_27 => ?_)
    refine zg_X3_place F (by with_reducible assumption) fl_X7_159 dX7_road_30 ?_
    try simp only [t3]
    refine z_isub F dX7_road_33 ?_
    refine z_iret F X dX7_road_34 ?_
    exact Or.inl ⟨h_21, rfl, t1, t2⟩
end
section
/-! a road that is read doesn't hang on what was there before -/
theorem num_v {L : zF1} {len p h : Nat} (hh : h ≤ 99) (z : ¬ (numF L len p (nI h)).1 < 0) : ∃ v, v ≤ h ∧ (numF L len p (nI h)).1 = nI v := by
  unfold numF at z ⊢
  by_cases hd : dgF (chF L len (nxP L (len - p) p))
  · rw [if_pos hd] at z ⊢
    obtain ⟨a', b', q, n1, n2, n3, n4⟩ := nm_rel (L := L) hh (len - nxP L (len - p) p) (nxP L (len - p) p) 0 0 ⟨by decide, Or.inl ⟨rfl, by omega⟩⟩
    rw [show nI 0 = (0 : Int32) from rfl] at n2
    rw [n2] at z ⊢
    by_cases y : nI h < nI b'
    · rw [if_pos y] at z
      exact absurd (by decide : (-1 : Int32) < 0) z
    · rw [if_neg y]
      have : ¬ h < b' := fun c => y (nI_lt c (by omega))
      exact ⟨b', by omega, rfl⟩
  · rw [if_neg hd] at z
    exact absurd (by decide : (-1 : Int32) < 0) z
theorem opt_v {L : zF1} {len p h : Nat} {c : Int32} (hh : h ≤ 99) (z : ¬ (optF L len p c (nI h)).1 < 0) : ∃ v, v ≤ h ∧ (optF L len p c (nI h)).1 = nI v := by
  unfold optF at z ⊢
  by_cases y : rdB L len p c
  · rw [if_pos y] at z ⊢; exact num_v hh z
  · rw [if_neg y] at z ⊢; exact ⟨0, by omega, rfl⟩
theorem free_v {L : zF1} {len p nt m : Nat} {T : zF1} (h10 : nt ≤ 10) (z : ¬ (freeF L len p (nI nt) T m).1 < 0) : (∃ j, j < nt ∧ (freeF L len p (nI nt) T m).1 = nI j) ∧ whoF T m (freeF L len p (nI nt) T m).1 = -4 := by
  unfold freeF at z ⊢
  by_cases y : (0 ≤ chF L len (nxP L (len - p) p) - 48 ∧ chF L len (nxP L (len - p) p) - 48 < nI nt) ∧ whoF T m (chF L len (nxP L (len - p) p) - 48) = -4
  · rw [if_pos y]
    exact ⟨n_in y.1 (by omega), y.2⟩
  · rw [if_neg y] at z
    exact absurd (by decide : (-1 : Int32) < 0) z
theorem free_cg {L : zF1} {len p m : Nat} {nt : Int32} {T T' : zF1} (h : ∀ x, whoF T m x = -4 ↔ whoF T' m x = -4) : freeF L len p nt T m = freeF L len p nt T' m := by
  unfold freeF
  by_cases y : (0 ≤ chF L len (nxP L (len - p) p) - 48 ∧ chF L len (nxP L (len - p) p) - 48 < nt) ∧ whoF T m (chF L len (nxP L (len - p) p) - 48) = -4
  · rw [if_pos y, if_pos ⟨y.1, (h _).mp y.2⟩]
  · rw [if_neg y, if_neg (fun c => y ⟨c.1, (h _).mpr c.2⟩)]
theorem per_cg {L : zF1} {len p m : Nat} {nt : Int32} {T T' : zF1} (h : ∀ x, whoF T m x = -4 ↔ whoF T' m x = -4) : perF L len p nt T m = perF L len p nt T' m := by
  unfold perF
  rw [free_cg h]
theorem his_cg {L : zF1} {len p m : Nat} {nt : Int32} {T T' : zF1} (h : ∀ x, whoF T m x = -4 ↔ whoF T' m x = -4) : hisF L len p nt T m = hisF L len p nt T' m := by
  unfold hisF
  rw [free_cg h]
theorem per_v {L : zF1} {len p nt m : Nat} {T : zF1} (h10 : nt ≤ 10) (z : ¬ (perF L len p (nI nt) T m).1 = 0) : (∃ v, v ≤ 20 ∧ (perF L len p (nI nt) T m).2.2.2.1 = nI v) ∧ ((perF L len p (nI nt) T m).2.2.2.2 = -4 ∨ (∃ j, j < nt ∧ (perF L len p (nI nt) T m).2.2.2.2 = nI j) ∧ whoF T m (perF L len p (nI nt) T m).2.2.2.2 = -4) := by
  unfold perF at z ⊢
  by_cases y1 : (numF L len p 11).1 < 0
  · rw [if_pos y1] at z; exact absurd rfl z
  rw [if_neg y1] at z ⊢
  by_cases y2 : rdB L len (numF L len p 11).2 61 ∧ (freeF L len (rdP L len (numF L len p 11).2 61) (nI nt) T m).1 < 0
  · rw [if_pos y2] at z; exact absurd rfl z
  rw [if_neg y2] at z ⊢
  rw [perG_opt] at z ⊢
  by_cases y3 : (optF L len (if rdB L len (numF L len p 11).2 61 then freeF L len (rdP L len (numF L len p 11).2 61) (nI nt) T m else (-4, rdP L len (numF L len p 11).2 61)).2 43 20).1 < 0
  · rw [if_pos y3] at z; exact absurd rfl z
  rw [if_neg y3]
  refine ⟨opt_v (h := 20) (by omega) y3, ?_⟩
  show (if rdB L len (numF L len p 11).2 61 then freeF L len (rdP L len (numF L len p 11).2 61) (nI nt) T m else (-4, rdP L len (numF L len p 11).2 61)).1 = -4 ∨ (∃ j, j < nt ∧ (if rdB L len (numF L len p 11).2 61 then freeF L len (rdP L len (numF L len p 11).2 61) (nI nt) T m else (-4, rdP L len (numF L len p 11).2 61)).1 = nI j) ∧ whoF T m (if rdB L len (numF L len p 11).2 61 then freeF L len (rdP L len (numF L len p 11).2 61) (nI nt) T m else (-4, rdP L len (numF L len p 11).2 61)).1 = -4
  by_cases y4 : rdB L len (numF L len p 11).2 61
  · rw [if_pos y4]
    exact Or.inr (free_v h10 (fun c => y2 ⟨y4, c⟩))
  · rw [if_neg y4]
    exact Or.inl rfl
def thV (n : Nat) (th : zF1) : Prop := ∀ j, j < n → (th (4 * j) = 0 ∨ th (4 * j) = 1 ∨ th (4 * j) = 2 ∨ th (4 * j) = 3) ∧ ∃ v, v ≤ 99 ∧ th (4 * j + 1) = nI v
theorem thi_v {L : zF1} {len p : Nat} (z : ¬ (thiF L len p).1 = 0) : ((thiF L len p).2.2.1 = 0 ∨ (thiF L len p).2.2.1 = 1 ∨ (thiF L len p).2.2.1 = 2 ∨ (thiF L len p).2.2.1 = 3) ∧ ∃ v, v ≤ 99 ∧ (thiF L len p).2.2.2.1 = nI v := by
  unfold thiF at z ⊢
  by_cases y0 : kndF (chF L len (nxP L (len - p) p)) < 0
  · rw [if_pos y0] at z; exact absurd rfl z
  rw [if_neg y0] at z ⊢
  by_cases y1 : (numF L len (nxP L (len - p) p + 1) 99).1 < 0
  · rw [if_pos y1] at z; exact absurd rfl z
  rw [if_neg y1] at z ⊢
  by_cases y2 : (optF L len (numF L len (nxP L (len - p) p + 1) 99).2 108 30).1 < 0
  · rw [if_pos y2] at z; exact absurd rfl z
  rw [if_neg y2] at z ⊢
  by_cases y3 : (optF L len (optF L len (numF L len (nxP L (len - p) p + 1) 99).2 108 30).2 99 30).1 < 0
  · rw [if_pos y3] at z; exact absurd rfl z
  rw [if_neg y3]
  refine ⟨?_, num_v (h := 99) (by omega) y1⟩
  show kndF _ = 0 ∨ kndF _ = 1 ∨ kndF _ = 2 ∨ kndF _ = 3
  unfold kndF at y0 ⊢
  split
  · exact Or.inl rfl
  · split
    · exact Or.inr (Or.inl rfl)
    · split
      · exact Or.inr (Or.inr (Or.inl rfl))
      · split
        · exact Or.inr (Or.inr (Or.inr rfl))
        · next a b c d => rw [if_neg a, if_neg b, if_neg c, if_neg d] at y0; exact absurd (by decide) y0
theorem thV_set {n : Nat} {th : zF1} {a b c d : Int32} (h : thV n th) (g : a = 0 ∨ a = 1 ∨ a = 2 ∨ a = 3) (k : ∃ v, v ≤ 99 ∧ b = nI v) : thV (n + 1) (setF th n a b c d) := fun j hj => by
  by_cases z : j = n
  · subst z
    rw [(setF_at th j a b c d).1, (setF_at th j a b c d).2]
    exact ⟨g, k⟩
  · rw [setF_off th n a b c d (by omega), setF_off th n a b c d (by omega)]
    exact h j (by omega)
theorem thiL_cg {L : zF1} {len : Nat} : ∀ (j p n : Nat) (th th' : zF1), thE n th th' → thV n th' → (thiL L len j (p, n, th)).1 = (thiL L len j (p, n, th')).1 ∧ (thiL L len j (p, n, th)).2.1 = (thiL L len j (p, n, th')).2.1 ∧ (thiL L len j (p, n, th)).2.2.1 = (thiL L len j (p, n, th')).2.2.1 ∧ thE (thiL L len j (p, n, th')).2.2.1 (thiL L len j (p, n, th)).2.2.2 (thiL L len j (p, n, th')).2.2.2 ∧ thV (thiL L len j (p, n, th')).2.2.1 (thiL L len j (p, n, th')).2.2.2 := by
  intro j
  induction j with
  | zero => intro p n th th' e v; exact ⟨rfl, rfl, rfl, e, v⟩
  | succ j ih =>
    intro p n th th' e v
    rw [thiL, thiL]
    dsimp only
    by_cases z : (thiF L len p).1 = 0
    · rw [if_pos z, if_pos z]; exact ⟨rfl, rfl, rfl, e, v⟩
    rw [if_neg z, if_neg z]
    obtain ⟨v1, v2⟩ := thi_v z
    have e2 := setF_cg e (thiF L len p).2.2.1 (thiF L len p).2.2.2.1 (thiF L len p).2.2.2.2.1 (thiF L len p).2.2.2.2.2
    have w2 := thV_set (c := (thiF L len p).2.2.2.2.1) (d := (thiF L len p).2.2.2.2.2) v v1 v2
    by_cases y : j = 0
    · rw [if_pos y, if_pos y]; exact ⟨rfl, rfl, rfl, e2, w2⟩
    rw [if_neg y, if_neg y]
    by_cases x : rdB L len (thiF L len p).2.1 44
    · rw [if_pos x, if_pos x]; exact ih _ _ _ _ e2 w2
    · rw [if_neg x, if_neg x]; exact ⟨rfl, rfl, rfl, e2, w2⟩
/-- people so far, alike -/
def pR (nt m : Nat) (Tb pe T pe' T' : zF1) : Prop := peE m pe pe' ∧ (T 0 = -4 ∧ T' 0 = -4) ∧ (∀ p, p < m → T (5 + p) = T' (5 + p)) ∧ (∀ k, 1 ≤ k → k < 5 → T k = Tb k) ∧ mOK m pe' ∧ (∀ p, p < m → vx nt (T' (5 + p))) ∧ (∀ p q, p < m → q < m → T' (5 + p) = T' (5 + q) → ¬ T' (5 + p) = -4 → p = q)
theorem pR.who {nt m : Nat} {Tb pe T pe' T' : zF1} (h : pR nt m Tb pe T pe' T') (h8 : m ≤ 8) (x : Int32) : whoF T m x = -4 ↔ whoF T' m x = -4 := by
  obtain ⟨_, ⟨a, b⟩, c, _⟩ := h
  rw [whoF_none h8, whoF_none h8, a, b]
  constructor
  · rintro ⟨z1, z2⟩; exact ⟨z1, fun p hp y => z2 p hp ((c p hp).trans y)⟩
  · rintro ⟨z1, z2⟩; exact ⟨z1, fun p hp y => z2 p hp ((c p hp).symm.trans y)⟩
theorem pR.new {nt m : Nat} {Tb pe T pe' T' : zF1} {ms mg x : Int32} (h : pR nt m Tb pe T pe' T') (h8 : m ≤ 8) (hg : ∃ v, v ≤ 20 ∧ mg = nI v) (hx : x = -4 ∨ (∃ j, j < nt ∧ x = nI j) ∧ whoF T' m x = -4) : pR nt (m + 1) Tb (va_up (va_up pe (2 * m) ms) (2 * m + 1) mg) (va_up T (5 + m) x) (va_up (va_up pe' (2 * m) ms) (2 * m + 1) mg) (va_up T' (5 + m) x) := by
  obtain ⟨a1, ⟨a2, a3⟩, a4, a5, a6, a7, a8⟩ := h
  refine ⟨peE_new a1, ⟨by rw [va_up_ne _ _ (by omega)]; exact a2, by rw [va_up_ne _ _ (by omega)]; exact a3⟩, fun p hp => ?_, fun k k1 k2 => by rw [va_up_ne _ _ (by omega)]; exact a5 k k1 k2, fun p hp => ?_, fun p hp => ?_, fun p q hp hq z y => ?_⟩
  · by_cases z : p = m
    · subst z; rw [va_up_self, va_up_self]
    · rw [va_up_ne _ _ (by omega), va_up_ne _ _ (by omega)]; exact a4 p (by omega)
  · by_cases z : p = m
    · subst z; rw [va_up_self]; exact hg
    · rw [va_up_ne _ _ (by omega), va_up_ne _ _ (by omega)]; exact a6 p (by omega)
  · by_cases z : p = m
    · subst z
      rw [va_up_self]
      rcases hx with hx | ⟨⟨j, hj, hx⟩, _⟩
      · exact Or.inl hx
      · exact Or.inr ⟨j, hj, hx⟩
    · rw [va_up_ne _ _ (by omega)]; exact a7 p (by omega)
  · by_cases e : p = m
    · by_cases e2 : q = m
      · omega
      · subst e
        rw [va_up_self, va_up_ne _ _ (by omega)] at z
        rw [va_up_self] at y
        exact absurd z.symm (((whoF_none h8).mp (hx.resolve_left y).2).2 q (by omega))
    · by_cases e2 : q = m
      · subst e2
        rw [va_up_self, va_up_ne _ _ (by omega)] at z
        rw [va_up_ne _ _ (by omega)] at y
        rcases hx with hx | hx
        · exact absurd (z.trans hx) y
        · exact absurd z (((whoF_none h8).mp hx.2).2 p (by omega))
      · rw [va_up_ne _ _ (by omega), va_up_ne _ _ (by omega)] at z
        rw [va_up_ne _ _ (by omega)] at y
        exact a8 p q (by omega) (by omega) z y
theorem peoL_cg {L : zF1} {len nt : Nat} {Tb : zF1} (h10 : nt ≤ 10) : ∀ (j p m : Nat) (pe T pe' T' : zF1), m + j ≤ 8 → pR nt m Tb pe T pe' T' → (peoL L len (nI nt) j (p, m, pe, T)).1 = (peoL L len (nI nt) j (p, m, pe', T')).1 ∧ (peoL L len (nI nt) j (p, m, pe, T)).2.1 = (peoL L len (nI nt) j (p, m, pe', T')).2.1 ∧ (peoL L len (nI nt) j (p, m, pe, T)).2.2.1 = (peoL L len (nI nt) j (p, m, pe', T')).2.2.1 ∧ (peoL L len (nI nt) j (p, m, pe', T')).2.2.1 ≤ 8 ∧ pR nt (peoL L len (nI nt) j (p, m, pe', T')).2.2.1 Tb (peoL L len (nI nt) j (p, m, pe, T)).2.2.2.1 (peoL L len (nI nt) j (p, m, pe, T)).2.2.2.2 (peoL L len (nI nt) j (p, m, pe', T')).2.2.2.1 (peoL L len (nI nt) j (p, m, pe', T')).2.2.2.2 := by
  intro j
  induction j with
  | zero => intro p m pe T pe' T' hm h; exact ⟨rfl, rfl, rfl, by show m ≤ 8; omega, h⟩
  | succ j ih =>
    intro p m pe T pe' T' hm h
    have ec : perF L len p (nI nt) T m = perF L len p (nI nt) T' m := per_cg (h.who (by omega))
    rw [peoL, peoL]
    dsimp only
    rw [ec]
    by_cases z : (perF L len p (nI nt) T' m).1 = 0
    · rw [if_pos z, if_pos z]; exact ⟨rfl, rfl, rfl, by show m ≤ 8; omega, h⟩
    rw [if_neg z, if_neg z]
    obtain ⟨v1, v2⟩ := per_v h10 z
    have hn := h.new (ms := (perF L len p (nI nt) T' m).2.2.1) (by omega) v1 v2
    by_cases y : j = 0
    · rw [if_pos y, if_pos y]; exact ⟨rfl, rfl, rfl, by show m + 1 ≤ 8; omega, hn⟩
    rw [if_neg y, if_neg y]
    by_cases x : rdB L len (perF L len p (nI nt) T' m).2.1 44
    · rw [if_pos x, if_pos x]; exact ih _ _ _ _ _ _ (by omega) hn
    · rw [if_neg x, if_neg x]; exact ⟨rfl, rfl, rfl, by show m + 1 ≤ 8; omega, hn⟩
def rdR (Tb : zF1) (S S' : zRd) : Prop := (S.1 = S'.1 ∧ S.2.2.1 = S'.2.2.1 ∧ S'.1 ≤ 10 ∧ S'.2.2.1 ≤ 8) ∧ (thE S'.1 S.2.1 S'.2.1 ∧ peE S'.2.2.1 S.2.2.2.1 S'.2.2.2.1) ∧ (S.2.2.2.2 0 = S'.2.2.2.2 0 ∧ (∀ p, p < S'.2.2.1 → S.2.2.2.2 (5 + p) = S'.2.2.2.2 (5 + p)) ∧ ∀ k, 1 ≤ k → k < 5 → S.2.2.2.2 k = Tb k) ∧ (thV S'.1 S'.2.1 ∧ mOK S'.2.2.1 S'.2.2.2.1 ∧ vx S'.1 (S'.2.2.2.2 0) ∧ (∀ p, p < S'.2.2.1 → vx S'.1 (S'.2.2.2.2 (5 + p)))) ∧ uq S'.2.2.1 S'.2.2.2.2
def roR (Tb : zF1) (R R' : Int32 × Nat × zRd) : Prop := R.1 = R'.1 ∧ R.2.1 = R'.2.1 ∧ (¬ R'.1 = 0 → rdR Tb R.2.2 R'.2.2)
theorem end_rd {L : zF1} {len p nt m : Nat} {Tb th th' pe T pe' T' : zF1} (h10 : nt ≤ 10) (h8 : m ≤ 8) (e : thE nt th th') (v : thV nt th') (h : pR nt m Tb pe T pe' T') : roR Tb (endF L len p (nt, th, m, pe, T)) (endF L len p (nt, th', m, pe', T')) := by
  obtain ⟨a1, ⟨a2, a3⟩, a4, a5, a6, a7, a8⟩ := h
  refine ⟨rfl, rfl, fun _ => ⟨⟨rfl, rfl, h10, h8⟩, ⟨e, a1⟩, ⟨a2.trans a3.symm, a4, a5⟩, ⟨v, a6, Or.inl a3, a7⟩, ⟨fun p hp _ => a3, a8⟩⟩⟩
theorem his_rd {L : zF1} {len p nt m : Nat} {Tb th th' pe T pe' T' : zF1} (h10 : nt ≤ 10) (h8 : m ≤ 8) (e : thE nt th th') (v : thV nt th') (h : pR nt m Tb pe T pe' T') : roR Tb (hisE L len p (nt, th, m, pe, T)) (hisE L len p (nt, th', m, pe', T')) := by
  have ec : hisF L len p (nI nt) T m = hisF L len p (nI nt) T' m := his_cg (h.who h8)
  unfold hisE
  dsimp only
  rw [ec]
  by_cases z : (hisF L len p (nI nt) T' m).1 = 0
  · rw [if_pos z, if_pos z]
    exact ⟨rfl, rfl, fun c => absurd rfl c⟩
  rw [if_neg z, if_neg z]
  have hv : (∃ j, j < nt ∧ (hisF L len p (nI nt) T' m).2.2 = nI j) ∧ whoF T' m (hisF L len p (nI nt) T' m).2.2 = -4 := by
    unfold hisF at z ⊢
    by_cases y : rdB L len p 61
    · rw [if_pos y] at z ⊢
      by_cases x : (freeF L len (rdP L len p 61) (nI nt) T' m).1 < 0
      · rw [if_pos x] at z; exact absurd rfl z
      · rw [if_neg x]; exact free_v h10 x
    · rw [if_neg y] at z; exact absurd rfl z
  generalize (hisF L len p (nI nt) T' m).2.2 = x at hv
  obtain ⟨⟨j, hj, hx⟩, hw⟩ := hv
  have hw2 := (whoF_none h8).mp hw
  obtain ⟨a1, ⟨a2, a3⟩, a4, a5, a6, a7, a8⟩ := h
  refine ⟨rfl, rfl, fun _ => ⟨⟨rfl, rfl, h10, h8⟩, ⟨e, a1⟩, ⟨?_, fun q hq => ?_, fun k k1 k2 => ?_⟩, ⟨v, a6, ?_, fun q hq => ?_⟩, ⟨fun q hq y => ?_, fun q q2 hq hq2 y c => ?_⟩⟩⟩
  · show va_up T 0 x 0 = va_up T' 0 x 0
    rw [va_up_self, va_up_self]
  · show va_up T 0 x (5 + q) = va_up T' 0 x (5 + q)
    rw [va_up_ne _ _ (by omega), va_up_ne _ _ (by omega)]; exact a4 q hq
  · show va_up T 0 x k = Tb k
    rw [va_up_ne _ _ (by omega)]; exact a5 k k1 k2
  · show vx nt (va_up T' 0 x 0)
    rw [va_up_self]; exact Or.inr ⟨j, hj, hx⟩
  · show vx nt (va_up T' 0 x (5 + q))
    rw [va_up_ne _ _ (by omega)]; exact a7 q hq
  · have y : va_up T' 0 x (5 + q) = va_up T' 0 x 0 := y
    rw [va_up_ne _ _ (by omega), va_up_self] at y
    exact absurd y (hw2.2 q hq)
  · have y : va_up T' 0 x (5 + q) = va_up T' 0 x (5 + q2) := y
    have c : ¬ va_up T' 0 x (5 + q) = -4 := c
    rw [va_up_ne _ _ (by omega), va_up_ne _ _ (by omega)] at y
    rw [va_up_ne _ _ (by omega)] at c
    exact a8 q q2 hq hq2 y c
theorem roadF_cg {L : zF1} {len : Nat} {th pe T th' pe' T' : zF1} (t0 : T 0 = -4) (t0' : T' 0 = -4) : roR T (roadF L len th pe T) (roadF L len th' pe' T') := by
  obtain ⟨c1, c2, c3, c4, c5⟩ := thiL_cg (L := L) (len := len) 10 0 0 th th' (fun q hq => absurd hq (by omega)) (fun j hj => absurd hj (by omega))
  obtain ⟨_, l2⟩ := thiL_le (L := L) (len := len) 10 (0, 0, th') (Nat.zero_le _)
  unfold roadF
  generalize thiL L len 10 (0, 0, th) = Z at c1 c2 c3 c4
  generalize thiL L len 10 (0, 0, th') = Z' at c1 c2 c3 c4 c5 l2
  rw [c1, c2]
  by_cases z : Z'.1 = 0
  · rw [if_pos z, if_pos z]; exact ⟨rfl, rfl, fun c => absurd rfl c⟩
  rw [if_neg z, if_neg z, c3]
  generalize Z'.2.1 = p
  generalize Z.2.2.2 = ta at c4
  generalize Z'.2.2.2 = tb at c4 c5
  generalize Z'.2.2.1 = n at c4 c5 l2
  have hn : n ≤ 10 := by simpa using l2
  have p0 : pR n 0 T pe T pe' T' := ⟨fun q hq => absurd hq (by omega), ⟨t0, t0'⟩, fun p hp => absurd hp (by omega), fun k _ _ => rfl, fun p hp => absurd hp (by omega), fun p hp => absurd hp (by omega), fun p q hp => absurd hp (by omega)⟩
  unfold roadG
  by_cases y : rdB L len p 59
  · rw [if_pos y, if_pos y]
    by_cases x : dgF (chF L len (nxP L (len - rdP L len p 59) (rdP L len p 59)))
    · rw [if_pos x, if_pos x]
      obtain ⟨d1, d2, d3, d4, d5⟩ := peoL_cg (L := L) (len := len) (Tb := T) hn 8 (nxP L (len - rdP L len p 59) (rdP L len p 59)) 0 pe T pe' T' (by omega) p0
      generalize peoL L len (nI n) 8 (nxP L (len - rdP L len p 59) (rdP L len p 59), 0, pe, T) = Y at d1 d2 d3 d5
      generalize peoL L len (nI n) 8 (nxP L (len - rdP L len p 59) (rdP L len p 59), 0, pe', T') = Y' at d1 d2 d3 d4 d5
      rw [d1, d2]
      by_cases w : Y'.1 = 0
      · rw [if_pos w, if_pos w]; exact ⟨rfl, rfl, fun c => absurd rfl c⟩
      rw [if_neg w, if_neg w]
      unfold roadH
      rw [d2, d3]
      by_cases v : rdB L len Y'.2.1 59
      · rw [if_pos v, if_pos v]; exact his_rd hn d4 c4 c5 d5
      · rw [if_neg v, if_neg v]; exact end_rd hn d4 c4 c5 d5
    · rw [if_neg x, if_neg x]
      exact his_rd hn (by omega) c4 c5 p0
  · rw [if_neg y, if_neg y]
    exact end_rd hn (by omega) c4 c5 p0
end
section
/-! the road, in pairs -/
def P7b_road (M : zM) (len : Nat) (r : Int32) (M2 : zM) : Prop := ((roadF (M.1 70) len (M.1 3) (M.1 14) (tT0 (M.1 16))).1 = 0 ∧ r = -20 - nI (roadF (M.1 70) len (M.1 3) (M.1 14) (tT0 (M.1 16))).2.1 ∧ ztg M M2 ∧ M2.1 69 1 = 0) ∨ (¬ (roadF (M.1 70) len (M.1 3) (M.1 14) (tT0 (M.1 16))).1 = 0 ∧ ∃ (M1 : zM) (S : zRd), S = (roadF (M.1 70) len (M.1 3) (M.1 14) (tT0 (M.1 16))).2.2 ∧ r = nI S.1 ∧ ztg M M1 ∧ M1.1 69 1 = 0 ∧ M2 = zs (za (zrd M1 2 (va_up (va_up (M.1 2) 0 (nI S.1)) 1 (nI S.2.2.1)) S.2.1 S.2.2.2.1) 16 S.2.2.2.2) 1 3 0)
def Q7_road (M : zM) (r : Int32) (M2 : zM) : Prop := ∃ nt np ah u len, SX M M nt np ah u len ∧ P7b_road M len r M2
theorem q7_road {l : Launch} {w : zE} (J : zJ w) {M : zM} (S : Sim M) : zCi l w yX7_road cX7_road 2 (some .int) 7 [.ref (w.2.2 0)] M (Q7_road M) := by
  obtain ⟨nt, np, ah, u, len, S⟩ := S
  have h : zCi l w yX7_road cX7_road 2 (some .int) 7 [.ref (w.2.2 0)] M (P7b_road M len) := by
    have h := e_X7_road (l := l) J (M := M) (o := 0) (by decide) rfl S.2.2.2.1.1 S.2.2.2.1.2.2.1 S.2.2.2.1.2.2.2.2
    simp only [Nat.zero_add, Nat.reduceAdd] at h
    exact h
  exact zCi_post (fun r M2 h => ⟨nt, np, ah, u, len, S, h⟩) h
theorem tT0_0 (T : zF1) : tT0 T 0 = -4 ∧ tT0 T 1 = 0 ∧ tT0 T 2 = 0 ∧ tT0 T 3 = 0 ∧ tT0 T 4 = T 4 := by
  unfold tT0
  refine ⟨?_, ?_, ?_, ?_, ?_⟩ <;> simp +decide only [va_g, if_true, if_false]
theorem road_fail {M M2 M3 : zM} {nt np ah u len : Nat} (S : SX M M nt np ah u len) (f : ztg M M2) (f69 : M2.1 69 1 = 0) (g : RF M2 M3) : Sim M3 := by
  obtain ⟨f1, f2⟩ := f
  obtain ⟨g1, g2, g3, g4⟩ := g
  have e : ∀ b, b ≠ 138 → b ≠ 143 → b ≠ 144 → (b < 69 ∨ b = 70 ∨ 87 ≤ b) → M3.1 b = M.1 b := fun b h1 h2 h3 h4 => (g2 b h1 h2 h3).trans (f2 b h4)
  have e8 : ∀ k, (k < 10 ∨ 15 < k) → M3.1 138 k = M.1 138 k := fun k hk => (g3 k hk).trans (by rw [f2 138 (by omega)])
  have e2 : M3.2 = M.2 := g1.trans f1
  have e69 : M3.1 69 1 = 0 := by rw [g2 69 (by decide) (by decide) (by decide)]; exact f69
  obtain ⟨w, ts, ⟨k1, k2, k3⟩, ⟨t1, t2, t3, t4, t5⟩, sh⟩ := S
  refine ⟨nt, np, ah, u, 0, ?_, by rw [e8 8 (by omega)]; exact ts, ⟨by rw [e 52 (by decide) (by decide) (by decide) (by decide)]; exact k1, by rw [e 0 (by decide) (by decide) (by decide) (by decide), e8 25 (by omega)]; exact k2, fun hz => ?_⟩, ⟨e69, g4, by omega, by rw [e 70 (by decide) (by decide) (by decide) (by decide), e 142 (by decide) (by decide) (by decide) (by decide)]; exact t4, fun q hq => absurd hq (by omega)⟩, fun q hq => ?_⟩
  · unfold WN
    rw [e8 0 (by omega), e8 1 (by omega), e8 5 (by omega), e8 6 (by omega), e8 20 (by omega), e 139 (by decide) (by decide) (by decide) (by decide), e 140 (by decide) (by decide) (by decide) (by decide), e 141 (by decide) (by decide) (by decide) (by decide), e 145 (by decide) (by decide) (by decide) (by decide)]
    exact WR.A w (fun b h1 h2 => e b (by omega) (by omega) (by omega) (by omega))
  · rw [e 0 (by decide) (by decide) (by decide) (by decide)] at hz
    obtain ⟨a1, a2, a3, a4, K⟩ := k3 hz
    refine ⟨a1, a2, a3, a4, ?_⟩
    unfold WK
    rw [e 149 (by decide) (by decide) (by decide) (by decide)]
    exact WR.A K (fun b h1 h2 => e b (by omega) (by omega) (by omega) (by omega))
  · unfold SH1
    rw [e (130 + 2 * q) (by omega) (by omega) (by omega) (by omega), e 150 (by decide) (by decide) (by decide) (by decide), e 151 (by decide) (by decide) (by decide) (by decide), e2]
    exact sh q hq
theorem road_ok {M M1 M3 : zM} {nt np ah u len : Nat} {SA SB : zRd} (S : SX M M nt np ah u len) (f : ztg M M1) (f69 : M1.1 69 1 = 0) (rr : rdR (tT0 (M.1 16)) SA SB) (g : RD (zs (za (zrd M1 2 (va_up (va_up (M.1 2) 0 (nI SA.1)) 1 (nI SA.2.2.1)) SA.2.1 SA.2.2.2.1) 16 SA.2.2.2.2) 1 3 0) M3 SB) : Sim M3 := by
  obtain ⟨f1, f2⟩ := f
  obtain ⟨⟨r1, r2, r3, r4⟩, ⟨r5, r6⟩, ⟨r7, r8, r9⟩, ⟨r10, r11, r12, r13⟩, r14⟩ := rr
  obtain ⟨g1, g2, ⟨g3, g4, g5, g6⟩, g7, g8, g9, ⟨g10, g11, g12, g13⟩⟩ := g
  have n : ∀ b, b ≠ 1 → b ≠ 2 → b ≠ 3 → b ≠ 14 → b ≠ 16 → (zs (za (zrd M1 2 (va_up (va_up (M.1 2) 0 (nI SA.1)) 1 (nI SA.2.2.1)) SA.2.1 SA.2.2.2.1) 16 SA.2.2.2.2) 1 3 0).1 b = M1.1 b := fun b h1 h2 h3 h4 h5 => by
    unfold zrd
    rw [zs_off _ h1, za_off _ h5, za_off _ h2, za_off _ h4, za_off _ h3]
  have n1 : (zs (za (zrd M1 2 (va_up (va_up (M.1 2) 0 (nI SA.1)) 1 (nI SA.2.2.1)) SA.2.1 SA.2.2.2.1) 16 SA.2.2.2.2) 1 3 0).1 1 3 = 0 := by rw [zs_at, va_up_self]
  have n2 : (zs (za (zrd M1 2 (va_up (va_up (M.1 2) 0 (nI SA.1)) 1 (nI SA.2.2.1)) SA.2.1 SA.2.2.2.1) 16 SA.2.2.2.2) 1 3 0).1 2 = va_up (va_up (M.1 2) 0 (nI SA.1)) 1 (nI SA.2.2.1) := by
    unfold zrd
    rw [zs_off _ (by decide), za_off _ (by decide), za_at]
  have n3 : (zs (za (zrd M1 2 (va_up (va_up (M.1 2) 0 (nI SA.1)) 1 (nI SA.2.2.1)) SA.2.1 SA.2.2.2.1) 16 SA.2.2.2.2) 1 3 0).1 3 = SA.2.1 := by
    unfold zrd
    rw [zs_off _ (by decide), za_off _ (by decide), za_off _ (by decide), za_off _ (by decide)]
    exact za_at _ _ _
  have n14 : (zs (za (zrd M1 2 (va_up (va_up (M.1 2) 0 (nI SA.1)) 1 (nI SA.2.2.1)) SA.2.1 SA.2.2.2.1) 16 SA.2.2.2.2) 1 3 0).1 14 = SA.2.2.2.1 := by
    unfold zrd
    rw [zs_off _ (by decide), za_off _ (by decide), za_off _ (by decide)]
    exact za_at _ _ _
  have n16 : (zs (za (zrd M1 2 (va_up (va_up (M.1 2) 0 (nI SA.1)) 1 (nI SA.2.2.1)) SA.2.1 SA.2.2.2.1) 16 SA.2.2.2.2) 1 3 0).1 16 = SA.2.2.2.2 := by rw [zs_off _ (by decide), za_at]
  have n22 : (zs (za (zrd M1 2 (va_up (va_up (M.1 2) 0 (nI SA.1)) 1 (nI SA.2.2.1)) SA.2.1 SA.2.2.2.1) 16 SA.2.2.2.2) 1 3 0).2 = M.2 := f1
  generalize zs (za (zrd M1 2 (va_up (va_up (M.1 2) 0 (nI SA.1)) 1 (nI SA.2.2.1)) SA.2.1 SA.2.2.2.1) 16 SA.2.2.2.2) 1 3 0 = N at g1 g2 g7 g8 n n1 n2 n3 n14 n16 n22
  have e : ∀ b, b ≠ 1 → b ≠ 2 → b ≠ 3 → b ≠ 14 → b ≠ 16 → b ≠ 138 → b ≠ 139 → b ≠ 140 → b ≠ 141 → b ≠ 143 → b ≠ 144 → (b < 69 ∨ b = 70 ∨ 87 ≤ b) → M3.1 b = M.1 b := fun b h1 h2 h3 h4 h5 h6 h7 h8 h9 h10 h11 h12 => (g2 b h6 h7 h8 h9 h10 h11).trans ((n b h1 h2 h3 h4 h5).trans (f2 b h12))
  have N138 : N.1 138 = M.1 138 := (n 138 (by decide) (by decide) (by decide) (by decide) (by decide)).trans (f2 138 (by omega))
  have N139 : N.1 139 = M.1 139 := (n 139 (by decide) (by decide) (by decide) (by decide) (by decide)).trans (f2 139 (by omega))
  rw [N138] at g7
  rw [N139] at g8
  have c : ∀ b, b < 138 → M3.1 b = N.1 b := fun b hb => g2 b (by omega) (by omega) (by omega) (by omega) (by omega) (by omega)
  have e69 : M3.1 69 1 = 0 := by rw [c 69 (by omega), n 69 (by decide) (by decide) (by decide) (by decide) (by decide)]; exact f69
  have e2 : M3.2 = M.2 := g1.trans n22
  have ok : tOK SB.1 SB.2.2.1 (M3.1 141) := by
    refine ⟨⟨by rw [g10]; exact r12, fun p hp => ?_, Or.inl (g11 2 (by omega) (by omega))⟩, ⟨fun p hp y => ?_, fun p q hp hq y z => ?_⟩, fun _ => g11 1 (by omega) (by omega), 0, by omega, g11 3 (by omega) (by omega)⟩
    · by_cases z : p < SB.2.2.1
      · rw [g12 p z]; exact r13 p z
      · rw [g13 p (by omega) hp]; exact Or.inl rfl
    · rw [g12 p hp, g10] at y
      rw [g10]
      exact r14.1 p hp y
    · rw [g12 p hp, g12 q hq] at y
      rw [g12 p hp] at z
      exact r14.2 p q hp hq y z
  have tt := tT0_0 (M.1 16)
  have W : WN M3 M3 SB.1 SB.2.2.1 0 0 := by
    refine WN.mk ⟨r3, r4, by omega, by omega⟩ ⟨?_, ?_, ?_, ?_, ?_⟩ ⟨g3, g4, g6⟩ ⟨fun q hq => ?_, fun q hq => ?_⟩ ⟨M.1 16 4, ?_, ?_, ?_, ?_, ?_, fun p hp => ?_⟩ ⟨fun j hj => absurd hj (by omega), fun j hj => absurd hj (by omega), ?_⟩ ⟨fun j hj => ?_, fun j hj => ?_, fun p hp => ?_⟩ ⟨ok, g11 3 (by omega) (by omega)⟩
    · rw [c 2 (by omega), n2, va_up_ne _ _ (by decide), va_up_self, r1]
    · rw [c 2 (by omega), n2, va_up_self, r2]
    · rw [c 2 (by omega), n2, va_up_ne _ _ (by decide), va_up_ne _ _ (by decide), g7 5 (by omega)]; exact S.cf.2.2.1
    · rw [c 2 (by omega), n2, va_up_ne _ _ (by decide), va_up_ne _ _ (by decide), g7 6 (by omega)]; exact S.cf.2.2.2.1
    · rw [c 1 (by omega), n1]; rfl
    · rw [c 3 (by omega), n3, g8 q, if_pos hq]; exact r5 q hq
    · rw [c 14 (by omega), n14, g9 q hq]; exact r6 q hq
    · rw [c 16 (by omega), n16, g10]; exact r7
    · rw [c 16 (by omega), n16, g11 1 (by omega) (by omega), r9 1 (by omega) (by omega)]; exact tt.2.1
    · rw [c 16 (by omega), n16, g11 2 (by omega) (by omega), r9 2 (by omega) (by omega)]; exact tt.2.2.1
    · rw [c 16 (by omega), n16, g11 3 (by omega) (by omega), r9 3 (by omega) (by omega)]; exact tt.2.2.2.1
    · rw [c 16 (by omega), n16, g11 4 (by omega) (by omega), r9 4 (by omega) (by omega), Int32.zero_add]; exact tt.2.2.2.2
    · rw [c 16 (by omega), n16]
      show _ = M3.1 141 (5 + p)
      rw [g12 p hp]; exact r8 p hp
    · rw [c 18 (by omega), n 18 (by decide) (by decide) (by decide) (by decide) (by decide), f2 18 (by omega)]; exact S.pm
    · rw [g8]
      by_cases z : 4 * j < 4 * SB.1
      · rw [if_pos z]; exact (r10 j (by omega)).1
      · rw [if_neg z]; exact S.kd.1 j hj
    · rw [g8, if_pos (by omega)]; exact (r10 j hj).2
    · rw [g9 _ (by omega)]; exact r11 p hp
  obtain ⟨w, ts, ⟨k1, k2, k3⟩, ⟨t1, t2, t3, t4, t5⟩, sh⟩ := S
  refine ⟨SB.1, SB.2.2.1, 0, 0, 0, W, by rw [g7 8 (by omega)]; exact ts, ⟨by rw [e 52 (by decide) (by decide) (by decide) (by decide) (by decide) (by decide) (by decide) (by decide) (by decide) (by decide) (by decide) (by decide)]; exact k1, by rw [e 0 (by decide) (by decide) (by decide) (by decide) (by decide) (by decide) (by decide) (by decide) (by decide) (by decide) (by decide) (by decide), g7 25 (by omega)]; exact k2, fun hz => ?_⟩, ⟨e69, g5, by omega, by rw [e 70 (by decide) (by decide) (by decide) (by decide) (by decide) (by decide) (by decide) (by decide) (by decide) (by decide) (by decide) (by decide), e 142 (by decide) (by decide) (by decide) (by decide) (by decide) (by decide) (by decide) (by decide) (by decide) (by decide) (by decide) (by decide)]; exact t4, fun q hq => absurd hq (by omega)⟩, fun q hq => ?_⟩
  · rw [e 0 (by decide) (by decide) (by decide) (by decide) (by decide) (by decide) (by decide) (by decide) (by decide) (by decide) (by decide) (by decide)] at hz
    obtain ⟨a1, a2, a3, a4, K⟩ := k3 hz
    refine ⟨a1, a2, a3, a4, ?_⟩
    unfold WK
    rw [e 149 (by decide) (by decide) (by decide) (by decide) (by decide) (by decide) (by decide) (by decide) (by decide) (by decide) (by decide) (by decide)]
    exact WR.A K (fun b h1 h2 => e b (by omega) (by omega) (by omega) (by omega) (by omega) (by omega) (by omega) (by omega) (by omega) (by omega) (by omega) (by omega))
  · unfold SH1
    rw [e (130 + 2 * q) (by omega) (by omega) (by omega) (by omega) (by omega) (by omega) (by omega) (by omega) (by omega) (by omega) (by omega) (by omega), e 150 (by decide) (by decide) (by decide) (by decide) (by decide) (by decide) (by decide) (by decide) (by decide) (by decide) (by decide) (by decide), e 151 (by decide) (by decide) (by decide) (by decide) (by decide) (by decide) (by decide) (by decide) (by decide) (by decide) (by decide) (by decide), e2]
    exact sh q hq
theorem q8_road {l : Launch} {w : zE} (J : zJ w) {M M2 : zM} {r : Int32} (h : Q7_road M r M2) : zCi l w yX8_road cX8_road 3 (some .int) 3 [.ref (w.2.2 138)] M2 (fun r' M3 => Sim M3 ∧ r' = r) := by
  obtain ⟨nt, np, ah, u, len, S, h⟩ := h
  have t4 : M.1 70 = M.1 142 := S.2.2.2.1.2.2.2.1
  have h120 := S.2.2.2.1.2.2.1
  rcases h with ⟨h1, rfl, f, f69⟩ | ⟨h1, M1, SA, hSA, rfl, f, f69, rfl⟩
  · have S2 : SX M M2 nt np ah u len := S.B (fun b hb => f.2 b (by omega)) (by rw [f.1])
    refine zCi_post (fun r' M3 q => ?_) (t8_road J S2.2.2.2.1.2.1 h120)
    unfold P8_road at q
    rw [f.2 142 (by omega), f.2 143 (by omega), f.2 144 (by omega), ← t4] at q
    obtain ⟨c1, c2, c3⟩ := roadF_cg (L := M.1 70) (len := len) (th := M.1 3) (pe := M.1 14) (T := tT0 (M.1 16)) (th' := M.1 143) (pe' := peR (M.1 144)) (T' := TR (M.1 144)) (tT0_0 _).1 rfl
    rcases q with ⟨z, rfl, g⟩ | ⟨z, _⟩
    · exact ⟨road_fail S f f69 g, by rw [c2]⟩
    · exact absurd (c1.symm.trans h1) z
  · have S2 : SX M (zs (za (zrd M1 2 (va_up (va_up (M.1 2) 0 (nI SA.1)) 1 (nI SA.2.2.1)) SA.2.1 SA.2.2.2.1) 16 SA.2.2.2.2) 1 3 0) nt np ah u len := S.B (fun b hb => by unfold zrd; rw [zs_off _ (by omega), za_off _ (by omega), za_off _ (by omega), za_off _ (by omega), za_off _ (by omega)]; exact f.2 b (by omega)) (by show M1.2 152 = _; rw [f.1])
    have eN : ∀ b, 138 ≤ b → (zs (za (zrd M1 2 (va_up (va_up (M.1 2) 0 (nI SA.1)) 1 (nI SA.2.2.1)) SA.2.1 SA.2.2.2.1) 16 SA.2.2.2.2) 1 3 0).1 b = M.1 b := fun b hb => by unfold zrd; rw [zs_off _ (by omega), za_off _ (by omega), za_off _ (by omega), za_off _ (by omega), za_off _ (by omega)]; exact f.2 b (by omega)
    refine zCi_post (fun r' M3 q => ?_) (t8_road J S2.2.2.2.1.2.1 h120)
    unfold P8_road at q
    rw [eN 142 (by omega), eN 143 (by omega), eN 144 (by omega), ← t4] at q
    obtain ⟨c1, c2, c3⟩ := roadF_cg (L := M.1 70) (len := len) (th := M.1 3) (pe := M.1 14) (T := tT0 (M.1 16)) (th' := M.1 143) (pe' := peR (M.1 144)) (T' := TR (M.1 144)) (tT0_0 _).1 rfl
    rcases q with ⟨z, _⟩ | ⟨z, rfl, g⟩
    · exact absurd (c1.trans z) h1
    · have rr := c3 z
      rw [← hSA] at rr
      exact ⟨road_ok S f f69 rr g, by rw [rr.1.1]⟩
end
section
/-! two new objects say the same -/
theorem i_f : M1.1 2 0 = nI 0 ∧ M1.1 2 1 = nI 0 ∧ M1.1 2 2 = M1.1 138 5 ∧ M1.1 2 3 = M1.1 138 6 ∧ M1.1 1 3 = nI 0 ∧ M1.1 138 0 = nI 0 ∧ M1.1 138 1 = nI 0 ∧ M1.1 138 20 = nI 0 := by decide +kernel
theorem i_t : M1.1 16 0 = M1.1 141 0 ∧ M1.1 16 1 = M1.1 141 1 ∧ M1.1 16 2 = M1.1 141 2 ∧ M1.1 16 3 = M1.1 141 3 ∧ M1.1 16 4 = M1.1 141 4 + 0 := by decide +kernel
theorem i_T : M1.1 141 0 = -4 ∧ (∀ p, p < 9 → M1.1 141 (5 + p) = -4) ∧ M1.1 141 2 = 0 ∧ M1.1 141 1 = 0 ∧ M1.1 141 3 = nI 0 := by decide +kernel
theorem i_p : (∀ k, k < 8 → M1.1 18 k = nI k) ∧ (∀ k, k < 8 → M1.1 52 k = nI k) := by decide +kernel
theorem i_k : ∀ j, j < 10 → M1.1 139 (4 * j) = 0 := by decide +kernel
theorem i_m : M1.1 138 8 = 0 ∧ M1.1 0 2 = M1.1 138 25 ∧ M1.1 0 2 = 0 ∧ M1.1 69 1 = nI 0 ∧ M1.1 138 10 = nI 0 := by decide +kernel
theorem i_s : ∀ q, q < 4 → M1.1 (130 + 2 * q) 0 = 0 ∧ M1.1 150 q = -1 ∧ M1.1 (130 + 2 * q) 2 = nI 0 ∧ M1.1 151 q = nI 0 := by decide +kernel
theorem i_l : M1.1 70 = M1.1 142 := by
  unfold M1
  rw [zs_off _ (by decide), za_off _ (by decide), zs_off _ (by decide), zs_off _ (by decide), zs_off _ (by decide), zs_off _ (by decide), zs_off _ (by decide), zs_off _ (by decide)]
  rw [zs_off _ (by decide), za_off _ (by decide), zs_off _ (by decide), zs_off _ (by decide), zs_off _ (by decide), zs_off _ (by decide), zs_off _ (by decide), zs_off _ (by decide)]
  rfl
theorem pm_id {f : zF1} (h : ∀ k, k < 8 → f k = nI k) : pmF f := ⟨fun k hk => ⟨k, hk, h k hk⟩, fun a b ha hb e => by
  rw [h a ha, h b hb] at e
  exact (nI_eq (by omega) (by omega)).mp e⟩
theorem sim_0 : Sim M1 := by
  obtain ⟨f1, f2, f3, f4, f5, f6, f7, f8⟩ := i_f
  obtain ⟨t0, t1, t2, t3, t4⟩ := i_t
  obtain ⟨u0, u5, u2, u1, u3⟩ := i_T
  obtain ⟨m8, m25, m0, m69, m10⟩ := i_m
  refine ⟨0, 0, 0, 0, 0, WN.mk ⟨by omega, by omega, by omega, by omega⟩ ⟨f1, f2, f3, f4, f5⟩ ⟨f6, f7, f8⟩ ⟨fun q hq => absurd hq (by omega), fun q hq => absurd hq (by omega)⟩ ⟨0, t0, t1, t2, t3, t4, fun p hp => absurd hp (by omega)⟩ ⟨fun j hj => absurd hj (by omega), fun j hj => absurd hj (by omega), pm_id i_p.1⟩ ⟨fun j hj => Or.inl (i_k j hj), fun j hj => absurd hj (by omega), fun p hp => absurd hp (by omega)⟩ ⟨⟨⟨Or.inl u0, fun p hp => Or.inl (u5 p hp), Or.inl u2⟩, ⟨fun p hp => absurd hp (by omega), fun p q hp => absurd hp (by omega)⟩, fun _ => u1, 0, by omega, u3⟩, u3⟩, m8, ⟨pm_id i_p.2, m25, fun z => absurd m0 z⟩, ⟨m69, m10, by omega, i_l, fun q hq => absurd hq (by omega)⟩, fun q hq => ?_⟩
  obtain ⟨s1, s2, s3, s4⟩ := i_s q hq
  exact ⟨Or.inl ⟨s1, s2⟩, ⟨0, by omega, s3, s4⟩, fun i hi => rfl⟩
end
