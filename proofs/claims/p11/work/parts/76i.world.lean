/-! calls that change the world, in pairs -/
theorem trx_3 {np : Nat} {d : Int32} {T T' : zF1} (t : trx np d s5 T T') (v : Int32) : trx np d s5 (va_up T 3 v) (va_up T' 3 v) := by
  obtain ⟨t0, t1, t2, t3, t4, t5⟩ := t
  refine ⟨?_, ?_, ?_, ?_, ?_, fun p hp => ?_⟩
  · simp +decide only [va_g, if_false, t0]
  · simp +decide only [va_g, if_false, t1]
  · simp +decide only [va_g, if_false, t2]
  · simp +decide only [va_g, if_true]
  · simp +decide only [va_g, if_false, t4]
  · unfold s5
    rw [va_up_ne _ _ (by omega), va_up_ne _ _ (by omega)]
    exact t5 p hp
theorem tOK_3 {nt np b : Nat} {T : zF1} (h : tOK nt np T) (hb : b ≤ 12) : tOK nt np (va_up T 3 (nI b)) := by
  obtain ⟨h1, h2, h3, _⟩ := h
  refine ⟨tv9_up1 h1 3 _ (Or.inr (Or.inl rfl)), uq_eq h2 (va_up_ne _ _ (by decide)) (fun p hp => va_up_ne _ _ (by omega)), fun z => ?_, b, hb, va_up_self _ _ _⟩
  rw [va_up_ne _ _ (by decide)] at z ⊢
  exact h3 z
theorem peE_up {np : Nat} {f g : zF1} (h : peE np f g) {k : Nat} {v : Int32} : peE np (va_up f k v) (va_up g k v) := fun q hq => by
  by_cases z : q = k
  · subst z; rw [va_up_self, va_up_self]
  · rw [va_up_ne _ _ z, va_up_ne _ _ z]; exact h q hq
theorem mOK_up {np j : Nat} {f : zF1} (h : mOK np f) {v : Int32} : mOK np (va_up f (2 * j) v) := fun p hp => by
  obtain ⟨a, b, c⟩ := h p hp
  exact ⟨a, b, by rw [va_up_ne _ _ (by omega)]; exact c⟩
theorem peE_new {np : Nat} {f g : zF1} (h : peE np f g) {v u : Int32} : peE (np + 1) (va_up (va_up f (2 * np) v) (2 * np + 1) u) (va_up (va_up g (2 * np) v) (2 * np + 1) u) := fun q hq => by
  by_cases z : q = 2 * np + 1
  · subst z; rw [va_up_self, va_up_self]
  · rw [va_up_ne _ _ z, va_up_ne _ _ z]
    by_cases y : q = 2 * np
    · subst y; rw [va_up_self, va_up_self]
    · rw [va_up_ne _ _ y, va_up_ne _ _ y]; exact h q (by omega)
theorem trx_new {np : Nat} {d x : Int32} {T T' : zF1} (t : trx np d s5 T T') : trx (np + 1) d s5 (va_up T (5 + np) x) (va_up T' (5 + np) x) := by
  obtain ⟨t0, t1, t2, t3, t4, t5⟩ := t
  refine ⟨?_, ?_, ?_, ?_, ?_, fun p hp => ?_⟩
  · rw [va_up_ne _ _ (by omega), va_up_ne _ _ (by omega), t0]
  · rw [va_up_ne _ _ (by omega), va_up_ne _ _ (by omega), t1]
  · rw [va_up_ne _ _ (by omega), va_up_ne _ _ (by omega), t2]
  · rw [va_up_ne _ _ (by omega), va_up_ne _ _ (by omega), t3]
  · rw [va_up_ne _ _ (by omega), va_up_ne _ _ (by omega), t4]
  · unfold s5
    by_cases z : p = np
    · subst z; rw [va_up_self, va_up_self]
    · rw [va_up_ne _ _ (by omega), va_up_ne _ _ (by omega)]; exact t5 p (by omega)
theorem kd_up {nt : Nat} {f : zF1} {a b c d : Int32} (h : kdOK f) (g : ¬ (a < 0 ∨ 3 < a)) : kdOK (setF f nt a b c d) := fun j hj => by
  by_cases z : j = nt
  · subst z
    rw [(setF_at f j a b c d).1]
    obtain ⟨i, hi, rfl⟩ := in_n (n := 3) 3 (by decide) g
    have : i = 0 ∨ i = 1 ∨ i = 2 ∨ i = 3 := by omega
    rcases this with rfl | rfl | rfl | rfl
    · exact Or.inl rfl
    · exact Or.inr (Or.inl rfl)
    · exact Or.inr (Or.inr (Or.inl rfl))
    · exact Or.inr (Or.inr (Or.inr rfl))
  · rw [setF_off f nt a b c d (by omega)]; exact h j hj
theorem w_up {nt : Nat} {f : zF1} {a b c d : Int32} (h : wOK nt f) (g : ¬ (b < 0 ∨ 99 < b)) : wOK (nt + 1) (setF f nt a b c d) := fun j hj => by
  by_cases z : j = nt
  · subst z
    rw [(setF_at f j a b c d).2]
    exact in_n (n := 99) 99 (by decide) g
  · rw [setF_off f nt a b c d (by omega)]; exact h j (by omega)
theorem m_up {np : Nat} {f : zF1} {v u : Int32} (h : mOK np f) (g : ¬ (u < 0 ∨ 20 < u)) : mOK (np + 1) (va_up (va_up f (2 * np) v) (2 * np + 1) u) := fun p hp => by
  by_cases z : p = np
  · subst z
    rw [va_up_self]
    exact in_n (n := 20) 20 (by decide) g
  · rw [va_up_ne _ _ (by omega), va_up_ne _ _ (by omega)]; exact h p (by omega)
theorem go_end {M N : zM} {nt np ah u len : Nat} {T1 T2 U2 : zF1} {d rf2 : Int32} (S : SX M M nt np ah u len) (y2 : ah < 12) (p16 : N.1 16 = T1) (p1 : N.1 1 3 = nI (notN u)) (pb : ∀ b, b ≠ 1 → b ≠ 16 → b ≠ 17 → b ≠ 18 → (∀ k, k < 8 → b ≠ 19 + 2 * k) → N.1 b = M.1 b) (p2 : N.2 = M.2) (pm' : pmF (N.1 18)) (ps' : ∀ j, j < notN u → ∃ d, trx np d s5 (N.1 (19 + 2 * (N.1 18 j).toNatClampNeg)) (rowT U2 j)) (pk' : ∀ j, j < notN u → tOK nt np (rowT U2 j)) (tp : trx np d s5 T1 T2) (tok : tOK nt np T2) (t3 : T2 3 = nI (ah + 1)) : Sim (zr (zs (zs (za N 145 U2) 138 20 (nI (notN u))) 138 7 (-4)) 138 T2 rf2) := by
  have h12 := S.bd.2.2.1
  have e145 : ∀ b, 138 ≤ b → N.1 b = M.1 b := fun b hb => pb b (by omega) (by omega) (by omega) (by omega) (fun k hk => by omega)
  have e : ∀ b, b ≠ 138 → b ≠ 141 → b ≠ 145 → (zr (zs (zs (za N 145 U2) 138 20 (nI (notN u))) 138 7 (-4)) 138 T2 rf2).1 b = N.1 b := fun b h1 h2 h3 => by rw [zr_off h1 h2, zs_off _ h1, zs_off _ h1, za_off _ h3]
  have f8 : ∀ k, k ≠ 7 → k ≠ 18 → k ≠ 20 → (zr (zs (zs (za N 145 U2) 138 20 (nI (notN u))) 138 7 (-4)) 138 T2 rf2).1 138 k = M.1 138 k := fun k h1 h2 h3 => by rw [zr_of _ _ _ _ h2, zs_g, if_neg (by omega), zs_g, if_neg (by omega), za_off _ (by decide), e145 138 (by omega)]
  have f20 : (zr (zs (zs (za N 145 U2) 138 20 (nI (notN u))) 138 7 (-4)) 138 T2 rf2).1 138 20 = nI (notN u) := by rw [zr_of _ _ _ _ (by decide), zs_g, if_neg (by decide), zs_at, va_up_self]
  have f141 : (zr (zs (zs (za N 145 U2) 138 20 (nI (notN u))) 138 7 (-4)) 138 T2 rf2).1 141 = T2 := zr_T _ 138 _ _
  have f145 : (zr (zs (zs (za N 145 U2) 138 20 (nI (notN u))) 138 7 (-4)) 138 T2 rf2).1 145 = U2 := by rw [zr_off (by decide) (by decide), zs_off _ (by decide), zs_off _ (by decide), za_at]
  have f2 : (zr (zs (zs (za N 145 U2) 138 20 (nI (notN u))) 138 7 (-4)) 138 T2 rf2).2 = M.2 := p2
  generalize zr (zs (zs (za N 145 U2) 138 20 (nI (notN u))) 138 7 (-4)) 138 T2 rf2 = Z at e f8 f20 f141 f145 f2
  have ee : ∀ b, b ≠ 138 → b ≠ 141 → b ≠ 145 → b ≠ 1 → b ≠ 16 → b ≠ 17 → b ≠ 18 → (∀ k, k < 8 → b ≠ 19 + 2 * k) → Z.1 b = M.1 b := fun b h1 h2 h3 h4 h5 h6 h7 h8 => (e b h1 h2 h3).trans (pb b h4 h5 h6 h7 h8)
  have hN : notN u ≤ 8 := by unfold notN; have := S.bd.2.2.2; split <;> omega
  have W : WN Z Z nt np (ah + 1) (notN u) := WN.mk ⟨S.bd.1, S.bd.2.1, by omega, hN⟩ ⟨by rw [ee 2 (by decide) (by decide) (by decide) (by decide) (by decide) (by decide) (by decide) (by omega)]; exact S.cf.1, by rw [ee 2 (by decide) (by decide) (by decide) (by decide) (by decide) (by decide) (by decide) (by omega)]; exact S.cf.2.1, by rw [ee 2 (by decide) (by decide) (by decide) (by decide) (by decide) (by decide) (by decide) (by omega), f8 5 (by decide) (by decide) (by decide)]; exact S.cf.2.2.1, by rw [ee 2 (by decide) (by decide) (by decide) (by decide) (by decide) (by decide) (by decide) (by omega), f8 6 (by decide) (by decide) (by decide)]; exact S.cf.2.2.2.1, by rw [e 1 (by decide) (by decide) (by decide)]; exact p1⟩ ⟨by rw [f8 0 (by decide) (by decide) (by decide)]; exact S.rf.1, by rw [f8 1 (by decide) (by decide) (by decide)]; exact S.rf.2.1, f20⟩ ⟨by rw [ee 3 (by decide) (by decide) (by decide) (by decide) (by decide) (by decide) (by decide) (by omega), ee 139 (by decide) (by decide) (by decide) (by decide) (by decide) (by decide) (by decide) (by omega)]; exact S.th, by rw [ee 14 (by decide) (by decide) (by decide) (by decide) (by decide) (by decide) (by decide) (by omega), ee 140 (by decide) (by decide) (by decide) (by decide) (by decide) (by decide) (by decide) (by omega)]; exact S.pe⟩ ⟨d, by rw [f141, e 16 (by decide) (by decide) (by decide), p16]; exact tp⟩ ⟨fun j hj => by rw [e 18 (by decide) (by decide) (by decide), f145, e _ (by have := pm_n pm' (k := j) (by omega); omega) (by have := pm_n pm' (k := j) (by omega); omega) (by have := pm_n pm' (k := j) (by omega); omega)]; exact ps' j hj, by rw [f145]; exact pk', by rw [e 18 (by decide) (by decide) (by decide)]; exact pm'⟩ ⟨by rw [ee 139 (by decide) (by decide) (by decide) (by decide) (by decide) (by decide) (by decide) (by omega)]; exact S.kd.1, by rw [ee 139 (by decide) (by decide) (by decide) (by decide) (by decide) (by decide) (by decide) (by omega)]; exact S.kd.2.1, by rw [ee 140 (by decide) (by decide) (by decide) (by decide) (by decide) (by decide) (by decide) (by omega)]; exact S.kd.2.2⟩ ⟨by rw [f141]; exact tok, by rw [f141]; exact t3⟩
  exact (S.world (M3 := Z) (fun b h1 h2 h3 => ee b (by omega) (by omega) (by omega) (by omega) (by omega) (by omega) (by omega) (fun k hk => by omega)) (fun b h1 => ee b (by omega) (by omega) (by omega) (by omega) (by omega) (by omega) (by omega) (fun k hk => by omega)) (fun k hk => f8 k (by omega) (by omega) (by omega)) ((f8 8 (by decide) (by decide) (by decide)).trans S.2.1) f2 W).sim
theorem past_le {M : zM} {nt np u v : Nat} (h : (∀ j, j < u → ∃ d, trx np d s5 (M.1 (19 + 2 * (M.1 18 j).toNatClampNeg)) (rowT (M.1 145) j)) ∧ (∀ j, j < u → tOK nt np (rowT (M.1 145) j)) ∧ pmF (M.1 18)) (hv : v ≤ u) : (∀ j, j < v → ∃ d, trx np d s5 (M.1 (19 + 2 * (M.1 18 j).toNatClampNeg)) (rowT (M.1 145) j)) ∧ (∀ j, j < v → tOK nt np (rowT (M.1 145) j)) ∧ pmF (M.1 18) := ⟨fun j hj => h.1 j (by omega), fun j hj => h.2.1 j (by omega), h.2.2⟩
def Q7_heed (M : zM) (v : Int32) (r : Int32) (M2 : zM) : Prop := ∃ nt np ah u len, SX M M nt np ah u len ∧ P7_heed M v r M2
theorem q7_heed {l : Launch} {w : zE} (J : zJ w) {M : zM} {v : Int32} (S : Sim M) : zCi l w yX7_heed cX7_heed 3 (some .int) 1 [.ref (w.2.2 0), .int v] M (Q7_heed M v) := by
  obtain ⟨nt, np, ah, u, len, S⟩ := S
  exact zCi_post (fun r M2 h => ⟨nt, np, ah, u, len, S, h⟩) (t7_heed J)
theorem q8_heed {l : Launch} {w : zE} (J : zJ w) {M M2 : zM} {v : Int32} {r : Int32} (h : Q7_heed M v r M2) : zCi l w yX8_heed cX8_heed 3 (some .int) 1 [.ref (w.2.2 138), .int v] M2 (fun r' M3 => Sim M3 ∧ r' = r) := by
  obtain ⟨nt, np, ah, u, len, S, h⟩ := h
  rcases h with ⟨b, rfl, rfl⟩ | ⟨b, rfl, rfl⟩
  · refine zCi_post (fun r' M3 q => ?_) (t8_heed J)
    rcases q with ⟨_, rfl, rfl⟩ | ⟨c, _⟩
    · exact ⟨S.sim, rfl⟩
    · exact absurd b c
  · refine zCi_post (fun r' M3 q => ?_) (t8_heed J)
    rcases q with ⟨c, _⟩ | ⟨_, rfl, rfl⟩
    · exact absurd c b
    · have e : ∀ bb, bb ≠ 2 → bb ≠ 138 → (zs (zs M 2 2 v) 138 5 v).1 bb = M.1 bb := fun bb h0 h1 => by rw [zs_off _ h1, zs_off _ h0]
      have W : WN (zs (zs M 2 2 v) 138 5 v) (zs (zs M 2 2 v) 138 5 v) nt np ah u := WN.mk (S.bd) ⟨(by simp +decide only [zs_g, za_g, false_and, if_true, if_false] <;> exact S.cf.1), (by simp +decide only [zs_g, za_g, false_and, if_true, if_false] <;> exact S.cf.2.1), (by simp +decide only [zs_g, za_g, false_and, if_true, if_false] <;> exact S.cf.2.2.1), (by simp +decide only [zs_g, za_g, false_and, if_true, if_false] <;> exact S.cf.2.2.2.1), (by simp +decide only [zs_g, za_g, false_and, if_true, if_false] <;> exact S.cf.2.2.2.2)⟩ ⟨(by simp +decide only [zs_g, za_g, false_and, if_true, if_false] <;> exact S.rf.1), (by simp +decide only [zs_g, za_g, false_and, if_true, if_false] <;> exact S.rf.2.1), (by simp +decide only [zs_g, za_g, false_and, if_true, if_false] <;> exact S.rf.2.2)⟩ ⟨(by rw [e 3 (by decide) (by decide), e 139 (by decide) (by decide)]; exact S.th), (by rw [e 14 (by decide) (by decide), e 140 (by decide) (by decide)]; exact S.pe)⟩ (by rw [e 16 (by decide) (by decide), e 141 (by decide) (by decide)]; exact S.tr) (S.1.past (e 18 (by decide) (by decide)) (fun k hk => e _ (by omega) (by omega)) (e 145 (by decide) (by decide))) ⟨(by rw [e 139 (by decide) (by decide)]; exact S.kd.1), (by rw [e 139 (by decide) (by decide)]; exact S.kd.2.1), (by rw [e 140 (by decide) (by decide)]; exact S.kd.2.2)⟩ ⟨(by rw [e 141 (by decide) (by decide)]; exact S.tk), (by rw [e 141 (by decide) (by decide)]; exact S.ta)⟩
      have SS := S.world (M3 := zs (zs M 2 2 v) 138 5 v) (fun bb h1 h2 h3 => e bb (by omega) (by omega)) (fun bb h1 => e bb (by omega) (by omega)) (fun k hk => by rcases hk with rfl | rfl <;> simp +decide only [zs_g, za_g, false_and, if_true, if_false]) (by simp +decide only [zs_g, za_g, false_and, if_true, if_false] <;> exact S.2.1) rfl W
      exact ⟨SS.sim, by simp +decide only [zs_g, za_g, false_and, if_true, if_false] <;> exact S.cf.2.2.1.symm⟩
def Q7_well (M : zM) (v : Int32) (r : Int32) (M2 : zM) : Prop := ∃ nt np ah u len, SX M M nt np ah u len ∧ P7_well M v r M2
theorem q7_well {l : Launch} {w : zE} (J : zJ w) {M : zM} {v : Int32} (S : Sim M) : zCi l w yX7_well cX7_well 3 (some .int) 1 [.ref (w.2.2 0), .int v] M (Q7_well M v) := by
  obtain ⟨nt, np, ah, u, len, S⟩ := S
  exact zCi_post (fun r M2 h => ⟨nt, np, ah, u, len, S, h⟩) (t7_well J)
theorem q8_well {l : Launch} {w : zE} (J : zJ w) {M M2 : zM} {v : Int32} {r : Int32} (h : Q7_well M v r M2) : zCi l w yX8_well cX8_well 3 (some .int) 1 [.ref (w.2.2 138), .int v] M2 (fun r' M3 => Sim M3 ∧ r' = r) := by
  obtain ⟨nt, np, ah, u, len, S, h⟩ := h
  rcases h with ⟨b, rfl, rfl⟩ | ⟨b, rfl, rfl⟩
  · refine zCi_post (fun r' M3 q => ?_) (t8_well J)
    rcases q with ⟨_, rfl, rfl⟩ | ⟨c, _⟩
    · exact ⟨S.sim, rfl⟩
    · exact absurd b c
  · refine zCi_post (fun r' M3 q => ?_) (t8_well J)
    rcases q with ⟨c, _⟩ | ⟨_, rfl, rfl⟩
    · exact absurd c b
    · have e : ∀ bb, bb ≠ 2 → bb ≠ 138 → (zs (zs M 2 3 v) 138 6 v).1 bb = M.1 bb := fun bb h0 h1 => by rw [zs_off _ h1, zs_off _ h0]
      have W : WN (zs (zs M 2 3 v) 138 6 v) (zs (zs M 2 3 v) 138 6 v) nt np ah u := WN.mk (S.bd) ⟨(by simp +decide only [zs_g, za_g, false_and, if_true, if_false] <;> exact S.cf.1), (by simp +decide only [zs_g, za_g, false_and, if_true, if_false] <;> exact S.cf.2.1), (by simp +decide only [zs_g, za_g, false_and, if_true, if_false] <;> exact S.cf.2.2.1), (by simp +decide only [zs_g, za_g, false_and, if_true, if_false] <;> exact S.cf.2.2.2.1), (by simp +decide only [zs_g, za_g, false_and, if_true, if_false] <;> exact S.cf.2.2.2.2)⟩ ⟨(by simp +decide only [zs_g, za_g, false_and, if_true, if_false] <;> exact S.rf.1), (by simp +decide only [zs_g, za_g, false_and, if_true, if_false] <;> exact S.rf.2.1), (by simp +decide only [zs_g, za_g, false_and, if_true, if_false] <;> exact S.rf.2.2)⟩ ⟨(by rw [e 3 (by decide) (by decide), e 139 (by decide) (by decide)]; exact S.th), (by rw [e 14 (by decide) (by decide), e 140 (by decide) (by decide)]; exact S.pe)⟩ (by rw [e 16 (by decide) (by decide), e 141 (by decide) (by decide)]; exact S.tr) (S.1.past (e 18 (by decide) (by decide)) (fun k hk => e _ (by omega) (by omega)) (e 145 (by decide) (by decide))) ⟨(by rw [e 139 (by decide) (by decide)]; exact S.kd.1), (by rw [e 139 (by decide) (by decide)]; exact S.kd.2.1), (by rw [e 140 (by decide) (by decide)]; exact S.kd.2.2)⟩ ⟨(by rw [e 141 (by decide) (by decide)]; exact S.tk), (by rw [e 141 (by decide) (by decide)]; exact S.ta)⟩
      have SS := S.world (M3 := zs (zs M 2 3 v) 138 6 v) (fun bb h1 h2 h3 => e bb (by omega) (by omega)) (fun bb h1 => e bb (by omega) (by omega)) (fun k hk => by rcases hk with rfl | rfl <;> simp +decide only [zs_g, za_g, false_and, if_true, if_false]) (by simp +decide only [zs_g, za_g, false_and, if_true, if_false] <;> exact S.2.1) rfl W
      exact ⟨SS.sim, by simp +decide only [zs_g, za_g, false_and, if_true, if_false] <;> exact S.cf.2.2.2.1.symm⟩
def Q7_again (M : zM) (r : Int32) (M2 : zM) : Prop := ∃ nt np ah u len, SX M M nt np ah u len ∧ P7_again M r M2
theorem q7_again {l : Launch} {w : zE} (J : zJ w) {M : zM} (S : Sim M) : zCi l w yX7_again cX7_again 2 (some .int) 0 [.ref (w.2.2 0)] M (Q7_again M) := by
  obtain ⟨nt, np, ah, u, len, S⟩ := S
  exact zCi_post (fun r M2 h => ⟨nt, np, ah, u, len, S, h⟩) (t7_again J)
theorem q8_again {l : Launch} {w : zE} (J : zJ w) {M M2 : zM} {r : Int32} (h : Q7_again M r M2) : zCi l w yX8_again cX8_again 2 (some .int) 0 [.ref (w.2.2 138)] M2 (fun r' M3 => Sim M3 ∧ r' = r) := by
  obtain ⟨nt, np, ah, u, len, S, h⟩ := h
  obtain ⟨rfl, rfl⟩ := h
  refine zCi_post (fun r' M3 q => ?_) (t8_again J)
  obtain ⟨rfl, rfl⟩ := q
  obtain ⟨d, t⟩ := S.tr
  have k1 : zs (zs M 16 3 0) 141 3 0 = za (za M 16 (va_up (M.1 16) 3 0)) 141 (va_up (M.1 141) 3 0) := by rw [zs_za, zs_za, za_off _ (by decide)]
  rw [k1]
  have e : ∀ bb, bb ≠ 16 → bb ≠ 141 → (za (za M 16 (va_up (M.1 16) 3 0)) 141 (va_up (M.1 141) 3 0)).1 bb = M.1 bb := fun bb h0 h1 => by rw [za_off _ h1, za_off _ h0]
  have W : WN (za (za M 16 (va_up (M.1 16) 3 0)) 141 (va_up (M.1 141) 3 0)) (za (za M 16 (va_up (M.1 16) 3 0)) 141 (va_up (M.1 141) 3 0)) nt np 0 u := WN.mk (⟨S.bd.1, S.bd.2.1, by omega, S.bd.2.2.2⟩) ⟨(by simp +decide only [zs_g, za_g, false_and, if_true, if_false] <;> exact S.cf.1), (by simp +decide only [zs_g, za_g, false_and, if_true, if_false] <;> exact S.cf.2.1), (by simp +decide only [zs_g, za_g, false_and, if_true, if_false] <;> exact S.cf.2.2.1), (by simp +decide only [zs_g, za_g, false_and, if_true, if_false] <;> exact S.cf.2.2.2.1), (by simp +decide only [zs_g, za_g, false_and, if_true, if_false] <;> exact S.cf.2.2.2.2)⟩ ⟨(by simp +decide only [zs_g, za_g, false_and, if_true, if_false] <;> exact S.rf.1), (by simp +decide only [zs_g, za_g, false_and, if_true, if_false] <;> exact S.rf.2.1), (by simp +decide only [zs_g, za_g, false_and, if_true, if_false] <;> exact S.rf.2.2)⟩ ⟨(by rw [e 3 (by decide) (by decide), e 139 (by decide) (by decide)]; exact S.th), (by rw [e 14 (by decide) (by decide), e 140 (by decide) (by decide)]; exact S.pe)⟩ (by rw [za_off _ (by decide), za_at, za_at]; exact ⟨d, trx_3 t 0⟩) (S.1.past (e 18 (by decide) (by decide)) (fun k hk => e _ (by omega) (by omega)) (e 145 (by decide) (by decide))) ⟨(by rw [e 139 (by decide) (by decide)]; exact S.kd.1), (by rw [e 139 (by decide) (by decide)]; exact S.kd.2.1), (by rw [e 140 (by decide) (by decide)]; exact S.kd.2.2)⟩ ⟨(by rw [za_at]; exact tOK_3 (b := 0) S.tk (by omega)), (by rw [za_at, va_up_self]; rfl)⟩
  have SS := S.world (M3 := za (za M 16 (va_up (M.1 16) 3 0)) 141 (va_up (M.1 141) 3 0)) (fun bb h1 h2 h3 => e bb (by omega) (by omega)) (fun bb h1 => e bb (by omega) (by omega)) (fun k hk => by rcases hk with rfl | rfl <;> simp +decide only [zs_g, za_g, false_and, if_true, if_false]) (by simp +decide only [zs_g, za_g, false_and, if_true, if_false] <;> exact S.2.1) rfl W
  exact ⟨SS.sim, by rw [zs_off _ (by decide)]; exact t.2.2.2.1.symm⟩
def Q7_take (M : zM) (x : Int32) (r : Int32) (M2 : zM) : Prop := ∃ nt np ah u len, SX M M nt np ah u len ∧ P7_take M np x r M2
theorem q7_take {l : Launch} {w : zE} (J : zJ w) {M : zM} {x : Int32} (S : Sim M) : zCi l w yX7_take cX7_take 3 (some .int) 2 [.ref (w.2.2 0), .int x] M (Q7_take M x) := by
  obtain ⟨nt, np, ah, u, len, S⟩ := S
  exact zCi_post (fun r M2 h => ⟨nt, np, ah, u, len, S, h⟩) (t7_take J S.cf.2.1 S.bd.2.1)
theorem q8_take {l : Launch} {w : zE} (J : zJ w) {M M2 : zM} {x : Int32} {r : Int32} (h : Q7_take M x r M2) : zCi l w yX8_take cX8_take 3 (some .int) 2 [.ref (w.2.2 138), .int x] M2 (fun r' M3 => Sim M3 ∧ r' = r) := by
  obtain ⟨nt, np, ah, u, len, S, h⟩ := h
  obtain ⟨d, t⟩ := S.tr
  have hh : takHad (M.1 16) np x ↔ takR (M.1 141) np x := by
    unfold takHad takR
    rw [t.1, whoF_none S.bd.2.1]
    constructor
    · rintro ⟨a1, a2, a3⟩
      refine ⟨a1, Classical.byContradiction fun z => a3 ⟨fun y => a2 (t.1.symm.trans y).symm, fun p hp y => z ⟨p, hp, (t.2.2.2.2.2 p hp).symm.trans y⟩⟩⟩
    · rintro ⟨a1, p, hp, a2⟩
      refine ⟨a1, fun y => ?_, fun y => y.2 p hp ((t.2.2.2.2.2 p hp).trans a2)⟩
      exact a1 (y.trans (S.tk.2.1.1 p hp (a2.trans y)))
  rcases h with ⟨b, rfl, rfl⟩ | ⟨b, c, rfl, rfl⟩ | ⟨b, c, rfl, rfl⟩
  · refine zCi_post (fun r' M3 q => ?_) (t8_take J S.rf.1 S.bd.1 S.rf.2.1 S.bd.2.1)
    rw [S.cf.1] at b
    unfold P8_take at q
    rw [S.rf.1] at q
    rcases q with ⟨_, rfl, rfl⟩ | ⟨z, _⟩ | ⟨z, _⟩
    · exact ⟨S.sim, rfl⟩
    · exact absurd b z
    · exact absurd b z
  · refine zCi_post (fun r' M3 q => ?_) (t8_take J S.rf.1 S.bd.1 S.rf.2.1 S.bd.2.1)
    rw [S.cf.1] at b
    unfold P8_take at q
    rw [S.rf.1] at q
    rcases q with ⟨z, _⟩ | ⟨_, _, rfl, rfl⟩ | ⟨_, z, _⟩
    · exact absurd z b
    · exact ⟨S.sim, rfl⟩
    · exact absurd (hh.mp c) z
  · have S2 : SX M (zs (zs M 16 0 x) 16 1 0) nt np ah u len := S.B (fun b hb => by rw [zs_off _ (by omega), zs_off _ (by omega)]) rfl
    refine zCi_post (fun r' M3 q => ?_) (t8_take J S2.rf.1 S2.bd.1 S2.rf.2.1 S2.bd.2.1)
    rw [S.cf.1] at b
    have e141 : (zs (zs M 16 0 x) 16 1 0).1 141 = M.1 141 := by rw [zs_off _ (by decide), zs_off _ (by decide)]
    unfold P8_take at q
    rw [S2.rf.1, e141] at q
    rcases q with ⟨z, _⟩ | ⟨_, z, _⟩ | ⟨_, z, rfl, rfl⟩
    · exact absurd z b
    · exact absurd (hh.mpr z) c
    have hx : vx nt x := by
      by_cases y : x = -4
      · exact Or.inl y
      · obtain ⟨j, hj, y2⟩ := n_in (n := nt) (Classical.byContradiction fun z => b ⟨y, z⟩) (by have := S.bd.1; omega)
        exact Or.inr ⟨j, hj, y2⟩
    have hn : ∀ p, p < np → M.1 141 (5 + p) = x → x = -4 := fun p hp y => Classical.byContradiction fun y2 => z ⟨y2, p, hp, y⟩
    have k1 : zs (zs (zs (zs M 16 0 x) 16 1 0) 141 0 x) 141 1 0 = za (za M 16 (va_up (va_up (M.1 16) 0 x) 1 0)) 141 (va_up (va_up (M.1 141) 0 x) 1 0) := by
      simp only [zs_za, za_at, za_za, za_off _ (show 141 ≠ 16 by decide)]
    rw [k1]
    have e : ∀ bb, bb ≠ 16 → bb ≠ 141 → (za (za M 16 (va_up (va_up (M.1 16) 0 x) 1 0)) 141 (va_up (va_up (M.1 141) 0 x) 1 0)).1 bb = M.1 bb := fun bb h0 h1 => by rw [za_off _ h1, za_off _ h0]
    have W : WN (za (za M 16 (va_up (va_up (M.1 16) 0 x) 1 0)) 141 (va_up (va_up (M.1 141) 0 x) 1 0)) (za (za M 16 (va_up (va_up (M.1 16) 0 x) 1 0)) 141 (va_up (va_up (M.1 141) 0 x) 1 0)) nt np ah u := WN.mk (S.bd) ⟨(by simp +decide only [zs_g, za_g, false_and, if_true, if_false] <;> exact S.cf.1), (by simp +decide only [zs_g, za_g, false_and, if_true, if_false] <;> exact S.cf.2.1), (by simp +decide only [zs_g, za_g, false_and, if_true, if_false] <;> exact S.cf.2.2.1), (by simp +decide only [zs_g, za_g, false_and, if_true, if_false] <;> exact S.cf.2.2.2.1), (by simp +decide only [zs_g, za_g, false_and, if_true, if_false] <;> exact S.cf.2.2.2.2)⟩ ⟨(by simp +decide only [zs_g, za_g, false_and, if_true, if_false] <;> exact S.rf.1), (by simp +decide only [zs_g, za_g, false_and, if_true, if_false] <;> exact S.rf.2.1), (by simp +decide only [zs_g, za_g, false_and, if_true, if_false] <;> exact S.rf.2.2)⟩ ⟨(by rw [e 3 (by decide) (by decide), e 139 (by decide) (by decide)]; exact S.th), (by rw [e 14 (by decide) (by decide), e 140 (by decide) (by decide)]; exact S.pe)⟩ (by rw [za_off _ (by decide), za_at, za_at]; exact ⟨d, trx_take t⟩) (S.1.past (e 18 (by decide) (by decide)) (fun k hk => e _ (by omega) (by omega)) (e 145 (by decide) (by decide))) ⟨(by rw [e 139 (by decide) (by decide)]; exact S.kd.1), (by rw [e 139 (by decide) (by decide)]; exact S.kd.2.1), (by rw [e 140 (by decide) (by decide)]; exact S.kd.2.2)⟩ ⟨(by rw [za_at]; exact S.tk.take hx hn), (by rw [za_at, va_up_ne _ _ (by decide), va_up_ne _ _ (by decide)]; exact S.ta)⟩
    have SS := S.world (M3 := za (za M 16 (va_up (va_up (M.1 16) 0 x) 1 0)) 141 (va_up (va_up (M.1 141) 0 x) 1 0)) (fun bb h1 h2 h3 => e bb (by omega) (by omega)) (fun bb h1 => e bb (by omega) (by omega)) (fun k hk => by rcases hk with rfl | rfl <;> simp +decide only [zs_g, za_g, false_and, if_true, if_false]) (by simp +decide only [zs_g, za_g, false_and, if_true, if_false] <;> exact S.2.1) rfl W
    exact ⟨SS.sim, t.1.symm⟩
def Q7_move (M : zM) (p : Int32) (m : Int32) (r : Int32) (M2 : zM) : Prop := ∃ nt np ah u len, SX M M nt np ah u len ∧ P7_move M p m r M2
theorem q7_move {l : Launch} {w : zE} (J : zJ w) {M : zM} {p : Int32} {m : Int32} (S : Sim M) : zCi l w yX7_move cX7_move 4 (some .int) 1 [.ref (w.2.2 0), .int p, .int m] M (Q7_move M p m) := by
  obtain ⟨nt, np, ah, u, len, S⟩ := S
  exact zCi_post (fun r M2 h => ⟨nt, np, ah, u, len, S, h⟩) (t7_move J (by rw [S.cf.2.1]; exact nI_le (b := 8) S.bd.2.1 (by decide)))
theorem q8_move {l : Launch} {w : zE} (J : zJ w) {M M2 : zM} {p : Int32} {m : Int32} {r : Int32} (h : Q7_move M p m r M2) : zCi l w yX8_move cX8_move 4 (some .int) 2 [.ref (w.2.2 138), .int p, .int m] M2 (fun r' M3 => Sim M3 ∧ r' = r) := by
  obtain ⟨nt, np, ah, u, len, S, h⟩ := h
  have h8 := S.bd.2.1
  unfold P7_move at h
  rw [S.cf.2.1] at h
  rcases h with ⟨b, c, rfl, rfl⟩ | ⟨b, rfl, rfl⟩
  · have S2 : SX M (zs M 14 (2 * p.toNatClampNeg) m) nt np ah u len := S.B (fun b hb => zs_off _ (by omega)) rfl
    refine zCi_post (fun r' M3 q => ?_) (t8_move J S2.rf.2.1 S2.bd.2.1)
    unfold P8_move at q
    rw [S2.rf.2.1] at q
    rcases q with ⟨_, _, rfl, rfl⟩ | ⟨z, _⟩
    · have hp : p.toNatClampNeg < np := by
        obtain ⟨j, hj, rfl⟩ := n_in b (by omega)
        rw [nI_clamp (by omega)]; exact hj
      generalize p.toNatClampNeg = j at hp
      have k1 : zs (zs M 14 (2 * j) m) 140 (2 * j) m = za (za M 14 (va_up (M.1 14) (2 * j) m)) 140 (va_up (M.1 140) (2 * j) m) := by rw [zs_za, zs_za, za_off _ (by decide)]
      rw [k1]
      have e : ∀ bb, bb ≠ 14 → bb ≠ 140 → (za (za M 14 (va_up (M.1 14) (2 * j) m)) 140 (va_up (M.1 140) (2 * j) m)).1 bb = M.1 bb := fun bb h0 h1 => by rw [za_off _ h1, za_off _ h0]
      have W : WN (za (za M 14 (va_up (M.1 14) (2 * j) m)) 140 (va_up (M.1 140) (2 * j) m)) (za (za M 14 (va_up (M.1 14) (2 * j) m)) 140 (va_up (M.1 140) (2 * j) m)) nt np ah u := WN.mk (S.bd) ⟨(by simp +decide only [zs_g, za_g, false_and, if_true, if_false] <;> exact S.cf.1), (by simp +decide only [zs_g, za_g, false_and, if_true, if_false] <;> exact S.cf.2.1), (by simp +decide only [zs_g, za_g, false_and, if_true, if_false] <;> exact S.cf.2.2.1), (by simp +decide only [zs_g, za_g, false_and, if_true, if_false] <;> exact S.cf.2.2.2.1), (by simp +decide only [zs_g, za_g, false_and, if_true, if_false] <;> exact S.cf.2.2.2.2)⟩ ⟨(by simp +decide only [zs_g, za_g, false_and, if_true, if_false] <;> exact S.rf.1), (by simp +decide only [zs_g, za_g, false_and, if_true, if_false] <;> exact S.rf.2.1), (by simp +decide only [zs_g, za_g, false_and, if_true, if_false] <;> exact S.rf.2.2)⟩ ⟨(by rw [e 3 (by decide) (by decide), e 139 (by decide) (by decide)]; exact S.th), (by rw [za_off _ (by decide), za_at, za_at]; exact peE_up S.pe)⟩ (by rw [e 16 (by decide) (by decide), e 141 (by decide) (by decide)]; exact S.tr) (S.1.past (e 18 (by decide) (by decide)) (fun k hk => e _ (by omega) (by omega)) (e 145 (by decide) (by decide))) ⟨(by rw [e 139 (by decide) (by decide)]; exact S.kd.1), (by rw [e 139 (by decide) (by decide)]; exact S.kd.2.1), (by rw [za_at]; exact mOK_up S.kd.2.2)⟩ ⟨(by rw [e 141 (by decide) (by decide)]; exact S.tk), (by rw [e 141 (by decide) (by decide)]; exact S.ta)⟩
      have SS := S.world (M3 := za (za M 14 (va_up (M.1 14) (2 * j) m)) 140 (va_up (M.1 140) (2 * j) m)) (fun bb h1 h2 h3 => e bb (by omega) (by omega)) (fun bb h1 => e bb (by omega) (by omega)) (fun k hk => by rcases hk with rfl | rfl <;> simp +decide only [zs_g, za_g, false_and, if_true, if_false]) (by simp +decide only [zs_g, za_g, false_and, if_true, if_false] <;> exact S.2.1) rfl W
      exact ⟨SS.sim, by rw [zs_off _ (by decide)]; exact (S.pe _ (by omega)).symm⟩
    · exact absurd ⟨b, c⟩ z
  · refine zCi_post (fun r' M3 q => ?_) (t8_move J S.rf.2.1 S.bd.2.1)
    unfold P8_move at q
    rw [S.rf.2.1] at q
    rcases q with ⟨z1, z2, _⟩ | ⟨_, rfl, rfl⟩
    · exact absurd ⟨z1, z2⟩ b
    · exact ⟨S.sim, rfl⟩
def Q7_thing (M : zM) (a : Int32) (b : Int32) (c : Int32) (d : Int32) (r : Int32) (M2 : zM) : Prop := ∃ nt np ah u len, SX M M nt np ah u len ∧ P7_thing M nt a b c d r M2
theorem q7_thing {l : Launch} {w : zE} (J : zJ w) {M : zM} {a : Int32} {b : Int32} {c : Int32} {d : Int32} (S : Sim M) : zCi l w yX7_thing cX7_thing 5 (some .int) 2 [.ref (w.2.2 0), .int a, .int b, .int c, .int d] M (Q7_thing M a b c d) := by
  obtain ⟨nt, np, ah, u, len, S⟩ := S
  exact zCi_post (fun r M2 h => ⟨nt, np, ah, u, len, S, h⟩) (t7_thing J S.cf.1 S.bd.1)
theorem q8_thing {l : Launch} {w : zE} (J : zJ w) {M M2 : zM} {a : Int32} {b : Int32} {c : Int32} {d : Int32} {r : Int32} (h : Q7_thing M a b c d r M2) : zCi l w yX8_thing cX8_thing 5 (some .int) 1 [.ref (w.2.2 138), .int a, .int b, .int c, .int d] M2 (fun r' M3 => Sim M3 ∧ r' = r) := by
  obtain ⟨nt, np, ah, u, len, S, h⟩ := h
  rcases h with ⟨y, rfl, rfl⟩ | ⟨y, y2, rfl, rfl⟩ | ⟨y, y2, rfl, rfl⟩
  · refine zCi_post (fun r' M3 q => ?_) (t8_thing J S.rf.1 S.bd.1)
    rcases q with ⟨_, rfl, rfl⟩ | ⟨z, _⟩ | ⟨z, _⟩
    · exact ⟨S.sim, rfl⟩
    · exact absurd y z
    · exact absurd y z
  · refine zCi_post (fun r' M3 q => ?_) (t8_thing J S.rf.1 S.bd.1)
    rcases q with ⟨z, _⟩ | ⟨_, _, rfl, rfl⟩ | ⟨_, z, _⟩
    · exact absurd z y
    · exact ⟨S.sim, rfl⟩
    · omega
  · have S2 : SX M (zs (za (zs M 1 3 0) 3 (setF (M.1 3) nt a b c d)) 2 0 (nI (nt + 1))) nt np ah u len := S.B (fun bb hb => by rw [zs_off _ (by omega), za_off _ (by omega), zs_off _ (by omega)]) rfl
    refine zCi_post (fun r' M3 q => ?_) (t8_thing J S2.rf.1 S2.bd.1)
    rcases q with ⟨z, _⟩ | ⟨_, z, _⟩ | ⟨_, _, rfl, rfl⟩
    · exact absurd z y
    · omega
    have g1 : ¬ (a < 0 ∨ 3 < a) := fun z => y (Or.inl z)
    have g2 : ¬ (b < 0 ∨ 99 < b) := fun z => y (Or.inr (Or.inl z))
    have k1 : zs (zs (za (zs (za (zs M 1 3 0) 3 (setF (M.1 3) nt a b c d)) 2 0 (nI (nt + 1))) 139 (setF ((zs (za (zs M 1 3 0) 3 (setF (M.1 3) nt a b c d)) 2 0 (nI (nt + 1))).1 139) nt a b c d)) 138 0 (nI (nt + 1))) 138 20 0 = za (zs (zs (za (zs (zs M 1 3 0) 2 0 (nI (nt + 1))) 3 (setF (M.1 3) nt a b c d)) 138 20 0) 138 0 (nI (nt + 1))) 139 (setF (M.1 139) nt a b c d) := by
      rw [show (zs (za (zs M 1 3 0) 3 (setF (M.1 3) nt a b c d)) 2 0 (nI (nt + 1))).1 139 = M.1 139 from by rw [zs_off _ (by decide), za_off _ (by decide), zs_off _ (by decide)]]
      refine zM_ext (fun bb => funext fun oo => ?_) rfl
      simp only [zs_g, za_g]
      repeat' split
      all_goals first | rfl | omega | (subst_vars; rfl)
    rw [k1]
    have e : ∀ bb, bb ≠ 1 → bb ≠ 2 → bb ≠ 3 → bb ≠ 138 → bb ≠ 139 → (za (zs (zs (za (zs (zs M 1 3 0) 2 0 (nI (nt + 1))) 3 (setF (M.1 3) nt a b c d)) 138 20 0) 138 0 (nI (nt + 1))) 139 (setF (M.1 139) nt a b c d)).1 bb = M.1 bb := fun bb h0 h1 h2 h3 h4 => by rw [za_off _ h4, zs_off _ h3, zs_off _ h3, za_off _ h2, zs_off _ h1, zs_off _ h0]
    have W : WN (za (zs (zs (za (zs (zs M 1 3 0) 2 0 (nI (nt + 1))) 3 (setF (M.1 3) nt a b c d)) 138 20 0) 138 0 (nI (nt + 1))) 139 (setF (M.1 139) nt a b c d)) (za (zs (zs (za (zs (zs M 1 3 0) 2 0 (nI (nt + 1))) 3 (setF (M.1 3) nt a b c d)) 138 20 0) 138 0 (nI (nt + 1))) 139 (setF (M.1 139) nt a b c d)) (nt + 1) np ah 0 := WN.mk (⟨by omega, S.bd.2.1, S.bd.2.2.1, by omega⟩) ⟨(by simp +decide only [zs_g, za_g, false_and, if_true, if_false] <;> exact rfl), (by simp +decide only [zs_g, za_g, false_and, if_true, if_false] <;> exact S.cf.2.1), (by simp +decide only [zs_g, za_g, false_and, if_true, if_false] <;> exact S.cf.2.2.1), (by simp +decide only [zs_g, za_g, false_and, if_true, if_false] <;> exact S.cf.2.2.2.1), (by simp +decide only [zs_g, za_g, false_and, if_true, if_false] <;> exact rfl)⟩ ⟨(by simp +decide only [zs_g, za_g, false_and, if_true, if_false] <;> exact rfl), (by simp +decide only [zs_g, za_g, false_and, if_true, if_false] <;> exact S.rf.2.1), (by simp +decide only [zs_g, za_g, false_and, if_true, if_false] <;> exact rfl)⟩ ⟨(by rw [za_off _ (by decide), zs_off _ (by decide), zs_off _ (by decide), za_at, za_at]; exact setF_cg S.th a b c d), (by rw [e 14 (by decide) (by decide) (by decide) (by decide) (by decide), e 140 (by decide) (by decide) (by decide) (by decide) (by decide)]; exact S.pe)⟩ (by rw [e 16 (by decide) (by decide) (by decide) (by decide) (by decide), e 141 (by decide) (by decide) (by decide) (by decide) (by decide)]; exact S.tr) ⟨fun j hj => absurd hj (by omega), fun j hj => absurd hj (by omega), by rw [e 18 (by decide) (by decide) (by decide) (by decide) (by decide)]; exact S.pm⟩ ⟨(by rw [za_at]; exact kd_up S.kd.1 g1), (by rw [za_at]; exact w_up S.kd.2.1 g2), (by rw [e 140 (by decide) (by decide) (by decide) (by decide) (by decide)]; exact S.kd.2.2)⟩ ⟨(by rw [e 141 (by decide) (by decide) (by decide) (by decide) (by decide)]; exact S.tk.upT), (by rw [e 141 (by decide) (by decide) (by decide) (by decide) (by decide)]; exact S.ta)⟩
    have SS := S.world (M3 := za (zs (zs (za (zs (zs M 1 3 0) 2 0 (nI (nt + 1))) 3 (setF (M.1 3) nt a b c d)) 138 20 0) 138 0 (nI (nt + 1))) 139 (setF (M.1 139) nt a b c d)) (fun bb h1 h2 h3 => e bb (by omega) (by omega) (by omega) (by omega) (by omega)) (fun bb h1 => e bb (by omega) (by omega) (by omega) (by omega) (by omega)) (fun k hk => by rcases hk with rfl | rfl <;> simp +decide only [zs_g, za_g, false_and, if_true, if_false]) (by simp +decide only [zs_g, za_g, false_and, if_true, if_false] <;> exact S.2.1) rfl W
    exact ⟨SS.sim, rfl⟩
def Q7_person (M : zM) (m : Int32) (x : Int32) (g2 : Int32) (r : Int32) (M2 : zM) : Prop := ∃ nt np ah u len, SX M M nt np ah u len ∧ P7_person M np m x g2 r M2
theorem q7_person {l : Launch} {w : zE} (J : zJ w) {M : zM} {m : Int32} {x : Int32} {g2 : Int32} (S : Sim M) : zCi l w yX7_person cX7_person 4 (some .int) 2 [.ref (w.2.2 0), .int m, .int x, .int g2] M (Q7_person M m x g2) := by
  obtain ⟨nt, np, ah, u, len, S⟩ := S
  exact zCi_post (fun r M2 h => ⟨nt, np, ah, u, len, S, h⟩) (t7_person J S.cf.2.1 S.bd.2.1)
theorem q8_person {l : Launch} {w : zE} (J : zJ w) {M M2 : zM} {m : Int32} {x : Int32} {g2 : Int32} {r : Int32} (h : Q7_person M m x g2 r M2) : zCi l w yX8_person cX8_person 4 (some .int) 2 [.ref (w.2.2 138), .int m, .int x, .int g2] M2 (fun r' M3 => Sim M3 ∧ r' = r) := by
  obtain ⟨nt, np, ah, u, len, S, h⟩ := h
  obtain ⟨d, t⟩ := S.tr
  have hh : perHad (M.1 16) np x ↔ perHad (M.1 141) np x := by unfold perHad; rw [whoFF_cg S.bd.2.1 t]
  unfold P7_person at h
  rw [S.cf.1, hh] at h
  rcases h with ⟨y, rfl, rfl⟩ | ⟨y, y2, rfl, rfl⟩ | ⟨y, y2, y3, rfl, rfl⟩ | ⟨y, y2, y3, rfl, rfl⟩
  · refine zCi_post (fun r' M3 q => ?_) (t8_person J S.rf.1 S.bd.1 S.rf.2.1 S.bd.2.1)
    unfold P8_person at q
    rw [S.rf.1] at q
    rcases q with ⟨_, rfl, rfl⟩ | ⟨z, _⟩ | ⟨z, _⟩ | ⟨z, _⟩
    · exact ⟨S.sim, rfl⟩
    · exact absurd y z
    · exact absurd y z
    · exact absurd y z
  · refine zCi_post (fun r' M3 q => ?_) (t8_person J S.rf.1 S.bd.1 S.rf.2.1 S.bd.2.1)
    unfold P8_person at q
    rw [S.rf.1] at q
    rcases q with ⟨z, _⟩ | ⟨_, _, rfl, rfl⟩ | ⟨_, z, _⟩ | ⟨_, z, _⟩
    · exact absurd z y
    · exact ⟨S.sim, rfl⟩
    · exact absurd y2 z
    · exact absurd y2 z
  · refine zCi_post (fun r' M3 q => ?_) (t8_person J S.rf.1 S.bd.1 S.rf.2.1 S.bd.2.1)
    unfold P8_person at q
    rw [S.rf.1] at q
    rcases q with ⟨z, _⟩ | ⟨_, z, _⟩ | ⟨_, _, _, rfl, rfl⟩ | ⟨_, _, z, _⟩
    · exact absurd z y
    · exact absurd z y2
    · exact ⟨S.sim, rfl⟩
    · omega
  · have S2 : SX M (zs (zs (zs (zs (zs M 1 3 0) 14 (2 * np) m) 14 (2 * np + 1) g2) 16 (5 + np) x) 2 1 (nI (np + 1))) nt np ah u len := S.B (fun b hb => by rw [zs_off _ (by omega), zs_off _ (by omega), zs_off _ (by omega), zs_off _ (by omega), zs_off _ (by omega)]) rfl
    refine zCi_post (fun r' M3 q => ?_) (t8_person J S2.rf.1 S2.bd.1 S2.rf.2.1 S2.bd.2.1)
    have e141 : (zs (zs (zs (zs (zs M 1 3 0) 14 (2 * np) m) 14 (2 * np + 1) g2) 16 (5 + np) x) 2 1 (nI (np + 1))).1 141 = M.1 141 := by rw [zs_off _ (by decide), zs_off _ (by decide), zs_off _ (by decide), zs_off _ (by decide), zs_off _ (by decide)]
    unfold P8_person at q
    rw [S2.rf.1, e141] at q
    rcases q with ⟨z, _⟩ | ⟨_, z, _⟩ | ⟨_, _, z, _⟩ | ⟨_, _, _, rfl, rfl⟩
    · exact absurd z y
    · exact absurd z y2
    · omega
    have hx : vx nt x := by
      by_cases z : x = -4
      · exact Or.inl z
      · obtain ⟨j, hj, z2⟩ := n_in (n := nt) (Classical.byContradiction fun z3 => y (Or.inr (Or.inl ⟨z, z3⟩))) (by have := S.bd.1; omega)
        exact Or.inr ⟨j, hj, z2⟩
    have hn : x = -4 ∨ (¬ M.1 141 0 = x ∧ ∀ p, p < np → ¬ M.1 141 (5 + p) = x) := by
      by_cases z : x = -4
      · exact Or.inl z
      · exact Or.inr ((whoF_none S.bd.2.1).mp (Classical.byContradiction fun z2 => y2 ⟨z, z2⟩))
    have g3 : ¬ (g2 < 0 ∨ 20 < g2) := fun z => y (Or.inr (Or.inr z))
    have k1 : zs (zs (zs (zs (zs (zs (zs (zs (zs (zs M 1 3 0) 14 (2 * np) m) 14 (2 * np + 1) g2) 16 (5 + np) x) 2 1 (nI (np + 1))) 140 (2 * np) m) 140 (2 * np + 1) g2) 141 (5 + np) x) 138 1 (nI (np + 1))) 138 20 0 = za (za (za (za (zs (zs (zs (zs M 1 3 0) 2 1 (nI (np + 1))) 138 1 (nI (np + 1))) 138 20 0) 14 (va_up (va_up (M.1 14) (2 * np) m) (2 * np + 1) g2)) 16 (va_up (M.1 16) (5 + np) x)) 140 (va_up (va_up (M.1 140) (2 * np) m) (2 * np + 1) g2)) 141 (va_up (M.1 141) (5 + np) x) := by
      refine zM_ext (fun bb => funext fun oo => ?_) rfl
      simp only [zs_g, za_g, va_g]
      repeat' split
      all_goals first | rfl | omega | (subst_vars; rfl)
    rw [k1]
    have e : ∀ bb, bb ≠ 1 → bb ≠ 2 → bb ≠ 14 → bb ≠ 16 → bb ≠ 138 → bb ≠ 140 → bb ≠ 141 → (za (za (za (za (zs (zs (zs (zs M 1 3 0) 2 1 (nI (np + 1))) 138 1 (nI (np + 1))) 138 20 0) 14 (va_up (va_up (M.1 14) (2 * np) m) (2 * np + 1) g2)) 16 (va_up (M.1 16) (5 + np) x)) 140 (va_up (va_up (M.1 140) (2 * np) m) (2 * np + 1) g2)) 141 (va_up (M.1 141) (5 + np) x)).1 bb = M.1 bb := fun bb h0 h1 h2 h3 h4 h5 h6 => by rw [za_off _ h6, za_off _ h5, za_off _ h3, za_off _ h2, zs_off _ h4, zs_off _ h4, zs_off _ h1, zs_off _ h0]
    have W : WN (za (za (za (za (zs (zs (zs (zs M 1 3 0) 2 1 (nI (np + 1))) 138 1 (nI (np + 1))) 138 20 0) 14 (va_up (va_up (M.1 14) (2 * np) m) (2 * np + 1) g2)) 16 (va_up (M.1 16) (5 + np) x)) 140 (va_up (va_up (M.1 140) (2 * np) m) (2 * np + 1) g2)) 141 (va_up (M.1 141) (5 + np) x)) (za (za (za (za (zs (zs (zs (zs M 1 3 0) 2 1 (nI (np + 1))) 138 1 (nI (np + 1))) 138 20 0) 14 (va_up (va_up (M.1 14) (2 * np) m) (2 * np + 1) g2)) 16 (va_up (M.1 16) (5 + np) x)) 140 (va_up (va_up (M.1 140) (2 * np) m) (2 * np + 1) g2)) 141 (va_up (M.1 141) (5 + np) x)) nt (np + 1) ah 0 := WN.mk (⟨S.bd.1, by omega, S.bd.2.2.1, by omega⟩) ⟨(by simp +decide only [zs_g, za_g, false_and, if_true, if_false] <;> exact S.cf.1), (by simp +decide only [zs_g, za_g, false_and, if_true, if_false] <;> exact rfl), (by simp +decide only [zs_g, za_g, false_and, if_true, if_false] <;> exact S.cf.2.2.1), (by simp +decide only [zs_g, za_g, false_and, if_true, if_false] <;> exact S.cf.2.2.2.1), (by simp +decide only [zs_g, za_g, false_and, if_true, if_false] <;> exact rfl)⟩ ⟨(by simp +decide only [zs_g, za_g, false_and, if_true, if_false] <;> exact S.rf.1), (by simp +decide only [zs_g, za_g, false_and, if_true, if_false] <;> exact rfl), (by simp +decide only [zs_g, za_g, false_and, if_true, if_false] <;> exact rfl)⟩ ⟨(by rw [e 3 (by decide) (by decide) (by decide) (by decide) (by decide) (by decide) (by decide), e 139 (by decide) (by decide) (by decide) (by decide) (by decide) (by decide) (by decide)]; exact S.th), (by rw [za_off _ (by decide), za_off _ (by decide), za_off _ (by decide), za_at, za_off _ (by decide), za_at]; exact peE_new S.pe)⟩ (by rw [za_off _ (by decide), za_off _ (by decide), za_at, za_at]; exact ⟨d, trx_new t⟩) ⟨fun j hj => absurd hj (by omega), fun j hj => absurd hj (by omega), by rw [e 18 (by decide) (by decide) (by decide) (by decide) (by decide) (by decide) (by decide)]; exact S.pm⟩ ⟨(by rw [e 139 (by decide) (by decide) (by decide) (by decide) (by decide) (by decide) (by decide)]; exact S.kd.1), (by rw [e 139 (by decide) (by decide) (by decide) (by decide) (by decide) (by decide) (by decide)]; exact S.kd.2.1), (by rw [za_off _ (by decide), za_at]; exact m_up S.kd.2.2 g3)⟩ ⟨(by rw [za_at]; exact S.tk.person y3 hx hn), (by rw [za_at, va_up_ne _ _ (by omega)]; exact S.ta)⟩
    have SS := S.world (M3 := za (za (za (za (zs (zs (zs (zs M 1 3 0) 2 1 (nI (np + 1))) 138 1 (nI (np + 1))) 138 20 0) 14 (va_up (va_up (M.1 14) (2 * np) m) (2 * np + 1) g2)) 16 (va_up (M.1 16) (5 + np) x)) 140 (va_up (va_up (M.1 140) (2 * np) m) (2 * np + 1) g2)) 141 (va_up (M.1 141) (5 + np) x)) (fun bb h1 h2 h3 => e bb (by omega) (by omega) (by omega) (by omega) (by omega) (by omega) (by omega)) (fun bb h1 => e bb (by omega) (by omega) (by omega) (by omega) (by omega) (by omega) (by omega)) (fun k hk => by rcases hk with rfl | rfl <;> simp +decide only [zs_g, za_g, false_and, if_true, if_false]) (by simp +decide only [zs_g, za_g, false_and, if_true, if_false] <;> exact S.2.1) rfl W
    exact ⟨SS.sim, rfl⟩
def Q7_undo (M : zM) (r : Int32) (M2 : zM) : Prop := ∃ nt np ah u len, SX M M nt np ah u len ∧ P7_undo M u r M2
theorem q7_undo {l : Launch} {w : zE} (J : zJ w) {M : zM} (S : Sim M) : zCi l w yX7_undo cX7_undo 1 (some .int) 3 [.ref (w.2.2 0)] M (Q7_undo M) := by
  obtain ⟨nt, np, ah, u, len, S⟩ := S
  exact zCi_post (fun r M2 h => ⟨nt, np, ah, u, len, S, h⟩) (t7_undo J S.pm S.cf.2.2.2.2 S.bd.2.2.2)
theorem q8_undo {l : Launch} {w : zE} (J : zJ w) {M M2 : zM} {r : Int32} (h : Q7_undo M r M2) : zCi l w yX8_undo cX8_undo 2 (some .int) 0 [.ref (w.2.2 138)] M2 (fun r' M3 => Sim M3 ∧ r' = r) := by
  obtain ⟨nt, np, ah, u, len, S, h⟩ := h
  have b4 := S.bd.2.2.2
  rcases h with ⟨y, rfl, rfl⟩ | ⟨j, y, rfl, rfl⟩
  · refine zCi_post (fun r' M3 q => ?_) (t8_undo J S.rf.2.2 S.bd.2.2.2)
    rcases q with ⟨_, rfl, rfl⟩ | ⟨j, z, _⟩
    · exact ⟨S.sim, rfl⟩
    · omega
  · have S2 : SX M (za (zs M 1 3 (nI j)) 16 (M.1 (19 + 2 * (M.1 18 j).toNatClampNeg))) nt np ah u len := S.B (fun b hb => by rw [za_off _ (by omega), zs_off _ (by omega)]) rfl
    refine zCi_post (fun r' M3 q => ?_) (t8_undo J S2.rf.2.2 S2.bd.2.2.2)
    rcases q with ⟨z, _⟩ | ⟨j2, z, rfl, rfl⟩
    · omega
    obtain rfl : j2 = j := by omega
    have k1 : za (zs (za (zs M 1 3 (nI j2)) 16 (M.1 (19 + 2 * (M.1 18 j2).toNatClampNeg))) 138 20 (nI j2)) 141 (fun q => (za (zs M 1 3 (nI j2)) 16 (M.1 (19 + 2 * (M.1 18 j2).toNatClampNeg))).1 145 (14 * j2 + q)) = za (za (zs (zs M 1 3 (nI j2)) 138 20 (nI j2)) 16 (M.1 (19 + 2 * (M.1 18 j2).toNatClampNeg))) 141 (rowT (M.1 145) j2) := by
      rw [show (za (zs M 1 3 (nI j2)) 16 (M.1 (19 + 2 * (M.1 18 j2).toNatClampNeg))).1 145 = M.1 145 from by rw [za_off _ (by decide), zs_off _ (by decide)]]
      refine zM_ext (fun bb => funext fun oo => ?_) rfl
      simp only [zs_g, za_g, rowT]
      repeat' split
      all_goals first | rfl | omega | (subst_vars; rfl)
    rw [k1]
    obtain ⟨b, hb, h3⟩ := (S.1.2.2.2.2.2.2.2.2.2 j2 (by omega)).2.2.2
    have e : ∀ bb, bb ≠ 1 → bb ≠ 16 → bb ≠ 138 → bb ≠ 141 → (za (za (zs (zs M 1 3 (nI j2)) 138 20 (nI j2)) 16 (M.1 (19 + 2 * (M.1 18 j2).toNatClampNeg))) 141 (rowT (M.1 145) j2)).1 bb = M.1 bb := fun bb h0 h1 h2 h3 => by rw [za_off _ h3, za_off _ h1, zs_off _ h2, zs_off _ h0]
    have W : WN (za (za (zs (zs M 1 3 (nI j2)) 138 20 (nI j2)) 16 (M.1 (19 + 2 * (M.1 18 j2).toNatClampNeg))) 141 (rowT (M.1 145) j2)) (za (za (zs (zs M 1 3 (nI j2)) 138 20 (nI j2)) 16 (M.1 (19 + 2 * (M.1 18 j2).toNatClampNeg))) 141 (rowT (M.1 145) j2)) nt np b j2 := WN.mk (⟨S.bd.1, S.bd.2.1, hb, by omega⟩) ⟨(by simp +decide only [zs_g, za_g, false_and, if_true, if_false] <;> exact S.cf.1), (by simp +decide only [zs_g, za_g, false_and, if_true, if_false] <;> exact S.cf.2.1), (by simp +decide only [zs_g, za_g, false_and, if_true, if_false] <;> exact S.cf.2.2.1), (by simp +decide only [zs_g, za_g, false_and, if_true, if_false] <;> exact S.cf.2.2.2.1), (by simp +decide only [zs_g, za_g, false_and, if_true, if_false] <;> exact rfl)⟩ ⟨(by simp +decide only [zs_g, za_g, false_and, if_true, if_false] <;> exact S.rf.1), (by simp +decide only [zs_g, za_g, false_and, if_true, if_false] <;> exact S.rf.2.1), (by simp +decide only [zs_g, za_g, false_and, if_true, if_false] <;> exact rfl)⟩ ⟨(by rw [e 3 (by decide) (by decide) (by decide) (by decide), e 139 (by decide) (by decide) (by decide) (by decide)]; exact S.th), (by rw [e 14 (by decide) (by decide) (by decide) (by decide), e 140 (by decide) (by decide) (by decide) (by decide)]; exact S.pe)⟩ (by rw [za_off _ (by decide), za_at, za_at]; exact S.1.2.2.2.2.2.2.1 j2 (by omega)) (past_le (S.1.past (e 18 (by decide) (by decide) (by decide) (by decide)) (fun k hk => e _ (by omega) (by omega) (by omega) (by omega)) (e 145 (by decide) (by decide) (by decide) (by decide))) (by omega)) ⟨(by rw [e 139 (by decide) (by decide) (by decide) (by decide)]; exact S.kd.1), (by rw [e 139 (by decide) (by decide) (by decide) (by decide)]; exact S.kd.2.1), (by rw [e 140 (by decide) (by decide) (by decide) (by decide)]; exact S.kd.2.2)⟩ ⟨(by rw [za_at]; exact S.1.2.2.2.2.2.2.2.2.2 j2 (by omega)), (by rw [za_at]; exact h3)⟩
    have SS := S.world (M3 := za (za (zs (zs M 1 3 (nI j2)) 138 20 (nI j2)) 16 (M.1 (19 + 2 * (M.1 18 j2).toNatClampNeg))) 141 (rowT (M.1 145) j2)) (fun bb h1 h2 h3 => e bb (by omega) (by omega) (by omega) (by omega)) (fun bb h1 => e bb (by omega) (by omega) (by omega) (by omega)) (fun k hk => by rcases hk with rfl | rfl <;> simp +decide only [zs_g, za_g, false_and, if_true, if_false]) (by simp +decide only [zs_g, za_g, false_and, if_true, if_false] <;> exact S.2.1) rfl W
    exact ⟨SS.sim, rfl⟩
def Q7_go (M : zM) (r : Int32) (M2 : zM) : Prop := ∃ nt np ah u len, SX M M nt np ah u len ∧ P7_go M u np r M2
theorem q7_go {l : Launch} {w : zE} (J : zJ w) {M : zM} (S : Sim M) : zCi l w yX7_go cX7_go 1 (some .int) 4 [.ref (w.2.2 0)] M (Q7_go M) := by
  obtain ⟨nt, np, ah, u, len, S⟩ := S
  exact zCi_post (fun r M2 h => ⟨nt, np, ah, u, len, S, h⟩) (t7_go J S.pm S.cf.2.2.2.2 S.bd.2.2.2 S.nt10 S.cf.2.1 S.bd.2.1)
set_option maxRecDepth 20000 in
theorem q8_go {l : Launch} {w : zE} (J : zJ w) {M M2 : zM} {r : Int32} (h : Q7_go M r M2) : zCi l w yX8_go cX8_go 2 (some .int) 6 [.ref (w.2.2 138)] M2 (fun r' M3 => Sim M3 ∧ r' = r) := by
  obtain ⟨nt, np, ah, u, len, S, h⟩ := h
  obtain ⟨d, t⟩ := S.tr
  have e3 : M.1 16 3 = nI ah := t.2.2.2.1.trans S.ta
  have h12 := S.bd.2.2.1
  unfold P7_go at h
  rw [e3] at h
  rcases h with ⟨y, rfl, rfl⟩ | ⟨y, rf, rfl, rfl⟩
  · have y2 : ¬ ah < 12 := fun z => nI_ge (b := 12) z (by decide) y
    refine zCi_post (fun r' M3 q => ?_) (t8_go J S.rok S.rf.2.2 S.bd.2.2.2)
    rcases q with ⟨_, rfl, rfl⟩ | ⟨z, _⟩
    · exact ⟨S.sim, rfl⟩
    · omega
  have y2 : ah < 12 := (nI_ltI (b := 12) (by omega) (by decide)).mp y
  generalize hT1 : (passF (M.1 2) (M.1 3) (M.1 14) np 1 (M.1 16, M.1 17 0)).1 = T1
  have tp : trx np d s5 T1 (passT (rbM (M.1 138)) (M.1 139) (M.1 140) np 1 (M.1 141)) := by
    rw [← hT1, passF_fst]
    exact (pass_cg (S := (M.1 16, 0)) (S' := (M.1 141, 0)) (c := 1) S.bd.1 S.rb S.th S.pe t rfl).1
  obtain ⟨p16, p1, pb, p2, pm', ps', pk'⟩ := go_past S.1 T1 rf
  have e145 : ∀ b, 138 ≤ b → (zt (remF M 1 u) 16 T1 rf).1 b = M.1 b := fun b hb => pb b (by omega) (by omega) (by omega) (by omega) (fun k hk => by omega)
  have S2 : SX M (zt (remF M 1 u) 16 T1 rf) nt np ah u len := S.B e145 (by rw [p2])
  refine zCi_post (fun r' M3 q => ?_) (t8_go J S2.rok S2.rf.2.2 S2.bd.2.2.2)
  rcases q with ⟨z, _⟩ | ⟨_, rf2, rfl, rfl⟩
  · omega
  rw [e145 138 (by omega), e145 139 (by omega), e145 140 (by omega), e145 141 (by omega), e145 145 (by omega), passF_fst]
  generalize zt (remF M 1 u) 16 T1 rf = N at p16 p1 pb p2 pm' ps' pk' e145 S2
  have tok : tOK nt np (passT (rbM (M.1 138)) (M.1 139) (M.1 140) np 1 (M.1 141)) := by
    obtain ⟨a1, a2, a3, _⟩ := S.tk
    obtain ⟨u1, u2⟩ := uq_pass (rb := rbM (M.1 138)) (th := M.1 139) (pe := M.1 140) (c := 1) (S := (M.1 141, 0)) a2 a3
    refine ⟨passF_ok (s := (M.1 141, 0)) a1 _ _ _ (a := ah) S.ta (by omega) (by have := S.bd.2.1; omega), u1, u2, ah + 1, by omega, ?_⟩
    show (passF _ _ _ np 1 (M.1 141, 0)).1 3 = _
    rw [passF_3]
    show M.1 141 3 + 1 = _
    rw [S.ta, nI_1]
  have t3 : passT (rbM (M.1 138)) (M.1 139) (M.1 140) np 1 (M.1 141) 3 = nI (ah + 1) := by
    show (passF _ _ _ np 1 (M.1 141, 0)).1 3 = _
    rw [passF_3]
    show M.1 141 3 + 1 = _
    rw [S.ta, nI_1]
  have sb : T1 4 - M.1 16 4 = passT (rbM (M.1 138)) (M.1 139) (M.1 140) np 1 (M.1 141) 4 - M.1 141 4 := by rw [tp.2.2.2.2.1, t.2.2.2.2.1, sub_sh]
  generalize passT (rbM (M.1 138)) (M.1 139) (M.1 140) np 1 (M.1 141) = T2 at tp tok t3 sb
  refine ⟨?_, sb.symm⟩
  generalize hU : notU (M.1 145) (M.1 141) u = U2 at ps' pk'
  exact go_end S y2 p16 p1 pb p2 pm' ps' pk' tp tok t3
def Q7_type (M : zM) (c : Int32) (r : Int32) (M2 : zM) : Prop := ∃ nt np ah u len, SX M M nt np ah u len ∧ P7_type M len c r M2
theorem q7_type {l : Launch} {w : zE} (J : zJ w) {M : zM} {c : Int32} (S : Sim M) : zCi l w yX7_type cX7_type 2 (some .int) 0 [.ref (w.2.2 0), .int c] M (Q7_type M c) := by
  obtain ⟨nt, np, ah, u, len, S⟩ := S
  exact zCi_post (fun r M2 h => ⟨nt, np, ah, u, len, S, h⟩) (t7_type J S.2.2.2.1.1 S.2.2.2.1.2.2.1)
theorem q8_type {l : Launch} {w : zE} (J : zJ w) {M M2 : zM} {c : Int32} {r : Int32} (h : Q7_type M c r M2) : zCi l w yX8_type cX8_type 2 (some .int) 1 [.ref (w.2.2 138), .int c] M2 (fun r' M3 => Sim M3 ∧ r' = r) := by
  obtain ⟨nt, np, ah, u, len, S, h⟩ := h
  have h120 := S.2.2.2.1.2.2.1
  rcases h with ⟨y, rfl, rfl⟩ | ⟨y, y2, rfl, rfl⟩ | ⟨y, y2, rfl, rfl⟩
  · refine zCi_post (fun r' M3 q => ?_) (t8_type J S.2.2.2.1.2.1 h120)
    rcases q with ⟨_, rfl, rfl⟩ | ⟨z, _⟩ | ⟨z, _⟩
    · exact ⟨S.sim, rfl⟩
    · exact absurd y z
    · exact absurd y z
  · refine zCi_post (fun r' M3 q => ?_) (t8_type J S.2.2.2.1.2.1 h120)
    rcases q with ⟨z, _⟩ | ⟨_, _, rfl, rfl⟩ | ⟨_, z, _⟩
    · exact absurd z y
    · exact ⟨S.sim, rfl⟩
    · omega
  have S2 : SX M (zs (zs M 70 len c) 69 1 (nI (len + 1))) nt np ah u len := S.B (fun b hb => by rw [zs_off _ (by omega), zs_off _ (by omega)]) rfl
  refine zCi_post (fun r' M3 q => ?_) (t8_type J S2.2.2.2.1.2.1 h120)
  rcases q with ⟨z, _⟩ | ⟨_, z, _⟩ | ⟨_, _, rfl, rfl⟩
  · exact absurd z y
  · omega
  refine ⟨?_, rfl⟩
  have e : ∀ b, b ≠ 69 → b ≠ 70 → b ≠ 138 → b ≠ 142 → (zs (zs (zs (zs M 70 len c) 69 1 (nI (len + 1))) 142 len c) 138 10 (nI (len + 1))).1 b = M.1 b := fun b h1 h2 h3 h4 => by rw [zs_off _ h3, zs_off _ h4, zs_off _ h1, zs_off _ h2]
  have e8 : ∀ k, k ≠ 10 → (zs (zs (zs (zs M 70 len c) 69 1 (nI (len + 1))) 142 len c) 138 10 (nI (len + 1))).1 138 k = M.1 138 k := fun k hk => by rw [zs_g, if_neg (by omega), zs_off _ (by decide), zs_off _ (by decide), zs_off _ (by decide)]
  have t1 : (zs (zs (zs (zs M 70 len c) 69 1 (nI (len + 1))) 142 len c) 138 10 (nI (len + 1))).1 69 1 = nI (len + 1) := by simp +decide only [zs_g, za_g, false_and, if_true, if_false]
  have t2 : (zs (zs (zs (zs M 70 len c) 69 1 (nI (len + 1))) 142 len c) 138 10 (nI (len + 1))).1 138 10 = nI (len + 1) := by simp +decide only [zs_g, za_g, false_and, if_true, if_false]
  have t3 : (zs (zs (zs (zs M 70 len c) 69 1 (nI (len + 1))) 142 len c) 138 10 (nI (len + 1))).1 70 = va_up (M.1 70) len c := by rw [zs_off _ (by decide), zs_off _ (by decide), zs_off _ (by decide), zs_at]
  have t4 : (zs (zs (zs (zs M 70 len c) 69 1 (nI (len + 1))) 142 len c) 138 10 (nI (len + 1))).1 142 = va_up (M.1 142) len c := by rw [zs_off _ (by decide), zs_at, zs_off _ (by decide), zs_off _ (by decide)]
  have t5 : (zs (zs (zs (zs M 70 len c) 69 1 (nI (len + 1))) 142 len c) 138 10 (nI (len + 1))).2 = M.2 := rfl
  generalize zs (zs (zs (zs M 70 len c) 69 1 (nI (len + 1))) 142 len c) 138 10 (nI (len + 1)) = Z at e e8 t1 t2 t3 t4 t5
  obtain ⟨w, ts, ⟨k1, k2, k3⟩, ⟨_, _, _, u4, u5⟩, sh⟩ := S
  refine ⟨nt, np, ah, u, len + 1, ?_, by rw [e8 8 (by decide)]; exact ts, ⟨by rw [e 52 (by decide) (by decide) (by decide) (by decide)]; exact k1, by rw [e 0 (by decide) (by decide) (by decide) (by decide), e8 25 (by decide)]; exact k2, fun hz => ?_⟩, ⟨t1, t2, by omega, by rw [t3, t4, u4], fun q hq => ?_⟩, fun q hq => ?_⟩
  · unfold WN
    rw [e8 0 (by decide), e8 1 (by decide), e8 5 (by decide), e8 6 (by decide), e8 20 (by decide), e 139 (by decide) (by decide) (by decide) (by decide), e 140 (by decide) (by decide) (by decide) (by decide), e 141 (by decide) (by decide) (by decide) (by decide), e 145 (by decide) (by decide) (by decide) (by decide)]
    exact WR.A w (fun b h1 h2 => e b (by omega) (by omega) (by omega) (by omega))
  · rw [e 0 (by decide) (by decide) (by decide) (by decide)] at hz
    obtain ⟨a1, a2, a3, a4, K⟩ := k3 hz
    refine ⟨a1, a2, a3, a4, ?_⟩
    unfold WK
    rw [e 149 (by decide) (by decide) (by decide) (by decide)]
    exact WR.A K (fun b h1 h2 => e b (by omega) (by omega) (by omega) (by omega))
  · rw [t3]
    by_cases z : q = len
    · subst z
      rw [va_up_self]
      obtain ⟨j, hj, hc⟩ := nI_of2 (M := 126) (n := 126) (x := c) (by decide) (fun z => y (Or.inl (Int32.lt_trans z (by decide)))) (Int32.not_lt.mp fun z => y (Or.inr z))
      exact ⟨j, by omega, hc⟩
    · rw [va_up_ne _ _ z]; exact u5 q (by omega)
  · unfold SH1
    rw [e (130 + 2 * q) (by omega) (by omega) (by omega) (by omega), e 150 (by decide) (by decide) (by decide) (by decide), e 151 (by decide) (by decide) (by decide) (by decide), t5]
    exact sh q hq
