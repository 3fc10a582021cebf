/-! deal and copy, in pairs -/
theorem dealT_5 (T : zF1) (f : Nat → Int64) (a k : Nat) {p : Nat} (hp : p < k) : dealT T f a k (5 + p) = if f (a + p) < 0 then -4 else (f (a + p)).toInt32 := by
  unfold dealT
  rw [if_pos (by omega), show 5 + p - 5 = p by omega]
theorem dealT_o (T : zF1) (f : Nat → Int64) (a k : Nat) {q : Nat} (hq : q < 5 ∨ 5 + k ≤ q) : dealT T f a k q = T q := if_neg (by omega)
theorem deal_T {nt np a m : Nat} {T T' : zF1} {f g : Nat → Int64} {d : Int32} (h10 : nt ≤ 10) (h8 : np ≤ 8) (ha : a + np ≤ 16) (t : trx np d s5 T T') (tk : tOK nt np T') (e : ∀ k, k < 16 → f k = g k) (hm : m < 1024) (hb : ∀ t, t < 10 → T' 0 = nI t → nI m >>> (nI t &&& 31) &&& 1 = 1) (hR : dlR g (nI nt) np a (nI m) = true) : trx np d s5 (dealT T f a np) (dealT T' g a np) ∧ tOK nt np (dealT T' g a np) := by
  obtain ⟨t0, t1, t2, t3, t4, t5⟩ := t
  obtain ⟨⟨v0, v5, v2⟩, _, z, b, hb12, h3⟩ := tk
  obtain ⟨u1, u2⟩ := deal_uq h10 np a m hm hR
  refine ⟨⟨?_, ?_, ?_, ?_, ?_, fun p hp => ?_⟩, ⟨?_, fun p hp => ?_, ?_⟩, ⟨fun p hp h => ?_, fun p q hp hq h hn => ?_⟩, fun h => ?_, b, hb12, ?_⟩
  · rw [dealT_o _ _ _ _ (by omega), dealT_o _ _ _ _ (by omega)]; exact t0
  · rw [dealT_o _ _ _ _ (by omega), dealT_o _ _ _ _ (by omega)]; exact t1
  · rw [dealT_o _ _ _ _ (by omega), dealT_o _ _ _ _ (by omega)]; exact t2
  · rw [dealT_o _ _ _ _ (by omega), dealT_o _ _ _ _ (by omega)]; exact t3
  · rw [dealT_o _ _ _ _ (by omega), dealT_o _ _ _ _ (by omega)]; exact t4
  · unfold s5
    rw [dealT_5 _ _ _ _ hp, dealT_5 _ _ _ _ hp, e _ (by omega)]
  · rw [dealT_o _ _ _ _ (by omega)]; exact v0
  · by_cases y : p < np
    · rw [dealT_5 _ _ _ _ y]
      rcases u1 (a + p) (by omega) (by omega) with w | ⟨s, hs, w1, w2, w3⟩
      · rw [if_pos w]; exact Or.inl rfl
      · rw [if_neg (Int64.not_lt.mpr w2), w1]; exact Or.inr ⟨s, hs, rfl⟩
    · rw [dealT_o _ _ _ _ (by omega)]; exact v5 p hp
  · rw [dealT_o _ _ _ _ (by omega)]; exact v2
  · rw [dealT_5 _ _ _ _ hp, dealT_o _ _ _ _ (show 0 < 5 ∨ _ by omega)] at h
    rw [dealT_o _ _ _ _ (show 0 < 5 ∨ _ by omega)]
    rcases u1 (a + p) (by omega) (by omega) with w | ⟨s, hs, w1, w2, w3⟩
    · rw [if_pos w] at h; exact h.symm
    · rw [if_neg (Int64.not_lt.mpr w2), w1] at h
      exact absurd (hb s (by omega) h.symm) w3
  · rw [dealT_5 _ _ _ _ hp, dealT_5 _ _ _ _ hq] at h
    rw [dealT_5 _ _ _ _ hp] at hn
    have np1 : ¬ g (a + p) < 0 := fun y => hn (if_pos y)
    rw [if_neg np1] at h hn
    have nq1 : ¬ g (a + q) < 0 := fun y => by rw [if_pos y] at h; exact hn h
    rw [if_neg nq1] at h
    by_cases y : p = q
    · exact y
    · rcases Nat.lt_or_ge p q with y2 | y2
      · rcases u2 (a + p) (a + q) (by omega) (by omega) (by omega) with w | w | w
        · exact absurd w np1
        · exact absurd w nq1
        · exact absurd h w
      · rcases u2 (a + q) (a + p) (by omega) (by omega) (by omega) with w | w | w
        · exact absurd w nq1
        · exact absurd w np1
        · exact absurd h.symm w
  · rw [dealT_o _ _ _ _ (by omega)] at h ⊢; exact z h
  · rw [dealT_o _ _ _ _ (by omega)]; exact h3
theorem deal_D {nt : Nat} {x : Int32} (h10 : nt ≤ 10) (v : vx nt x) : ∃ m, m < 1024 ∧ (if 0 ≤ x ∧ x < nI nt then (1 : Int32) <<< (x &&& 31) else 0) = nI m ∧ dlD x = nI m ∧ ∀ t, t < 10 → x = nI t → nI m >>> (nI t &&& 31) &&& 1 = 1 := by
  rcases v with rfl | ⟨j, hj, rfl⟩
  · refine ⟨0, by decide, rfl, rfl, fun t ht h => ?_⟩
    exact absurd h.symm ((by decide : ∀ h, h < 10 → ¬ nI h = -4) t ht)
  · obtain ⟨b1, b2⟩ := bit_1 j (by omega)
    have hn : ¬ nI j = -4 := (by decide : ∀ h, h < 10 → ¬ nI h = -4) j (by omega)
    refine ⟨2 ^ j, b2, ?_, ?_, fun t ht h => ?_⟩
    · rw [if_pos ⟨nI_pos' (by omega), nI_lt hj (by omega)⟩, b1]
    · unfold dlD; rw [if_neg hn, b1]
    · obtain rfl : j = t := (nI_eq (by omega) (by omega)).mp h
      rw [bit_n b2 ht, Nat.testBit_two_pow_self]
theorem why_cp {l L m : Nat} {i : Int32} (hl : l < 4) (hL : L ≤ 16) (hm : m < 2 ^ 31) : whyF (nI l) (nI L) (nI l) i (nI m) < 0 ↔ ¬ ∃ a, i = nI a ∧ a + m ≤ L := by
  unfold whyF
  rw [if_neg (nI_pos (by omega)), if_neg (fun y => y rfl)]
  by_cases y : ∃ a, i = nI a ∧ a + m ≤ L
  · rw [if_neg ((rg_nat hL hm).mpr y)]
    exact ⟨fun z => absurd z (by decide), fun z => absurd y z⟩
  · rw [if_pos (Classical.byContradiction fun c => y ((rg_nat hL hm).mp c))]
    exact ⟨fun _ => y, fun _ => by decide⟩
def Q7_deal (M : zM) (x : Int32) (ln : Int32) (i : Int32) (r : Int32) (M2 : zM) : Prop := ∃ nt np ah u len, SX M M nt np ah u len ∧ ((x < 0 ∨ 3 < x) ∧ M2 = M ∧ r = -1 ∨ ¬ (x < 0 ∨ 3 < x) ∧ ∃ L, P7_deal M np L x ln i r M2)
theorem q7_deal {l : Launch} {w : zE} (J : zJ w) {M : zM} {x : Int32} {ln : Int32} {i : Int32} (S : Sim M) : zCi l w yX7_deal cX7_deal 10 (some .int) 3 [.ref (w.2.2 0), .int x, .int ln, .int i] M (Q7_deal M x ln i) := by
  obtain ⟨nt, np, ah, u, len, S⟩ := S
  by_cases hx : x < 0 ∨ 3 < x
  · exact zCi_post (fun r M2 h => ⟨nt, np, ah, u, len, S, Or.inl ⟨hx, h.1, h.2⟩⟩) (b7_deal J hx)
  · obtain ⟨q, hq, e⟩ := s4_in hx
    obtain ⟨_, ⟨L, hL, hA, hB⟩, _⟩ := S.2.2.2.2 q hq
    exact zCi_post (fun r M2 h => ⟨nt, np, ah, u, len, S, Or.inr ⟨hx, L, h⟩⟩) (t7_deal J S.cf.2.1 S.bd.2.1 (L := L) (by rw [e, nI_clamp (by omega)]; exact hA) hL)
theorem q8_deal {l : Launch} {w : zE} (J : zJ w) {M M2 : zM} {x : Int32} {ln : Int32} {i : Int32} {r : Int32} (h : Q7_deal M x ln i r M2) : zCi l w yX8_deal cX8_deal 9 (some .int) 2 [.ref (w.2.2 138), .int x, .int ln, .int i] M2 (fun r' M3 => Sim M3 ∧ r' = r) := by
  obtain ⟨nt, np, ah, u, len, S, h⟩ := h
  have h8 := S.bd.2.1
  rcases h with ⟨hx, rfl, rfl⟩ | ⟨hx, L0, h⟩
  · refine zCi_post (fun r' M3 q => ?_) (t8_deal J S.rf.2.1 S.bd.2.1 S.sz)
    rcases q with ⟨_, rfl, rfl⟩ | ⟨z, _⟩
    · exact ⟨S.sim, rfl⟩
    · exact absurd (Or.inl hx) z
  obtain ⟨q0, hq, rfl⟩ := s4_in hx
  have e : (nI q0).toNatClampNeg = q0 := nI_clamp (by omega)
  have H := S.2.2.2.2 q0 hq
  unfold P7_deal at h
  rw [e] at h
  by_cases hl : ln < 0 ∨ 3 < ln
  · rw [rowS_l hl] at h
    rcases h with ⟨_, rfl, rfl⟩ | ⟨z, _⟩
    · refine zCi_post (fun r' M3 q => ?_) (t8_deal J S.rf.2.1 S.bd.2.1 S.sz)
      rcases q with ⟨_, rfl, rfl⟩ | ⟨z, _⟩
      · exact ⟨S.sim, rfl⟩
      · exact absurd (Or.inr hl) z
    · exact absurd (by decide) z
  obtain ⟨d, t⟩ := S.tr
  obtain ⟨m, hm, hD1, hD2, hD3⟩ := deal_D S.bd.1 S.tk.1.1
  rw [rowS_q hq hl, row_why H (by omega), S.cf.1, t.1, hD1] at h
  have hb : ¬ ((nI q0 < 0 ∨ 3 < nI q0) ∨ (ln < 0 ∨ 3 < ln)) := fun y => y.elim hx hl
  rcases h with ⟨h1, rfl, rfl⟩ | ⟨h1, a, ea, ha, h⟩
  · refine zCi_post (fun r' M3 q => ?_) (t8_deal J S.rf.2.1 S.bd.2.1 S.sz)
    rcases q with ⟨z, _⟩ | ⟨_, j, hj, ej, q⟩
    · exact absurd z hb
    obtain rfl : q0 = j := (nI_eq (by omega) (by omega)).mp ej
    rcases q with ⟨_, rfl, rfl⟩ | ⟨z, _⟩
    · exact ⟨S.sim, rfl⟩
    · exact absurd h1 z
  have eq := H.2.2
  rw [deal_cg (g := fun k => M.2 152 (16 * q0 + k)) S.bd.1 eq np a m ha hm] at h
  rcases h with ⟨h2, rfl, rfl⟩ | ⟨h2, rfl, rfl⟩
  · refine zCi_post (fun r' M3 q => ?_) (t8_deal J S.rf.2.1 S.bd.2.1 S.sz)
    unfold P8_deal at q
    rw [S.rf.1, hD2] at q
    rcases q with ⟨z, _⟩ | ⟨_, j, hj, ej, q⟩
    · exact absurd z hb
    obtain rfl : q0 = j := (nI_eq (by omega) (by omega)).mp ej
    rcases q with ⟨z, _⟩ | ⟨_, a2, ea2, ha2, q⟩
    · exact absurd z h1
    obtain rfl : a = a2 := (nI_eq (by omega) (by omega)).mp (ea.symm.trans ea2)
    rcases q with ⟨_, rfl, rfl⟩ | ⟨z, _⟩
    · exact ⟨S.sim, rfl⟩
    · exact absurd z h2
  have S2 : SX M (za M 16 (dealT (M.1 16) (M.2 (130 + 2 * q0 + 1)) a np)) nt np ah u len := S.B (fun b hb => za_off _ (by omega)) rfl
  have e141 : (za M 16 (dealT (M.1 16) (M.2 (130 + 2 * q0 + 1)) a np)).1 141 = M.1 141 := za_off _ (by decide)
  have e150 : (za M 16 (dealT (M.1 16) (M.2 (130 + 2 * q0 + 1)) a np)).1 150 = M.1 150 := za_off _ (by decide)
  have e151 : (za M 16 (dealT (M.1 16) (M.2 (130 + 2 * q0 + 1)) a np)).1 151 = M.1 151 := za_off _ (by decide)
  have e22 : (za M 16 (dealT (M.1 16) (M.2 (130 + 2 * q0 + 1)) a np)).2 = M.2 := rfl
  refine zCi_post (fun r' M3 q => ?_) (t8_deal J S2.rf.2.1 S2.bd.2.1 S2.sz)
  unfold P8_deal at q
  rw [S2.rf.1, e141, e150, e151, e22, hD2] at q
  rcases q with ⟨z, _⟩ | ⟨_, j, hj, ej, q⟩
  · exact absurd z hb
  obtain rfl : q0 = j := (nI_eq (by omega) (by omega)).mp ej
  rcases q with ⟨z, _⟩ | ⟨_, a2, ea2, ha2, q⟩
  · exact absurd z h1
  obtain rfl : a = a2 := (nI_eq (by omega) (by omega)).mp (ea.symm.trans ea2)
  rcases q with ⟨z, _⟩ | ⟨_, rfl, rfl⟩
  · rw [h2] at z; exact absurd z (by decide)
  obtain ⟨dt, dk⟩ := deal_T (g := fun k => M.2 152 (16 * q0 + k)) S.bd.1 h8 ha t S.tk eq hm hD3 h2
  have e : ∀ bb, bb ≠ 16 → bb ≠ 141 → (za (za M 16 (dealT (M.1 16) (M.2 (130 + 2 * q0 + 1)) a np)) 141 (dealT (M.1 141) (fun k => M.2 152 (16 * q0 + k)) a np)).1 bb = M.1 bb := fun bb h0 h1 => by rw [za_off _ h1, za_off _ h0]
  have W : WN (za (za M 16 (dealT (M.1 16) (M.2 (130 + 2 * q0 + 1)) a np)) 141 (dealT (M.1 141) (fun k => M.2 152 (16 * q0 + k)) a np)) (za (za M 16 (dealT (M.1 16) (M.2 (130 + 2 * q0 + 1)) a np)) 141 (dealT (M.1 141) (fun k => M.2 152 (16 * q0 + k)) a np)) nt np ah u := WN.mk (S.bd) ⟨(by simp +decide only [zs_g, za_g, false_and, if_true, if_false] <;> exact S.cf.1), (by simp +decide only [zs_g, za_g, false_and, if_true, if_false] <;> exact S.cf.2.1), (by simp +decide only [zs_g, za_g, false_and, if_true, if_false] <;> exact S.cf.2.2.1), (by simp +decide only [zs_g, za_g, false_and, if_true, if_false] <;> exact S.cf.2.2.2.1), (by simp +decide only [zs_g, za_g, false_and, if_true, if_false] <;> exact S.cf.2.2.2.2)⟩ ⟨(by simp +decide only [zs_g, za_g, false_and, if_true, if_false] <;> exact S.rf.1), (by simp +decide only [zs_g, za_g, false_and, if_true, if_false] <;> exact S.rf.2.1), (by simp +decide only [zs_g, za_g, false_and, if_true, if_false] <;> exact S.rf.2.2)⟩ ⟨(by rw [e 3 (by decide) (by decide), e 139 (by decide) (by decide)]; exact S.th), (by rw [e 14 (by decide) (by decide), e 140 (by decide) (by decide)]; exact S.pe)⟩ (by rw [za_off _ (by decide), za_at, za_at]; exact ⟨d, dt⟩) (S.1.past (e 18 (by decide) (by decide)) (fun k hk => e _ (by omega) (by omega)) (e 145 (by decide) (by decide))) ⟨(by rw [e 139 (by decide) (by decide)]; exact S.kd.1), (by rw [e 139 (by decide) (by decide)]; exact S.kd.2.1), (by rw [e 140 (by decide) (by decide)]; exact S.kd.2.2)⟩ ⟨(by rw [za_at]; exact dk), (by rw [za_at, dealT_o _ _ _ _ (by omega)]; exact S.ta)⟩
  have SS := S.world (M3 := za (za M 16 (dealT (M.1 16) (M.2 (130 + 2 * q0 + 1)) a np)) 141 (dealT (M.1 141) (fun k => M.2 152 (16 * q0 + k)) a np)) (fun bb h1 h2 h3 => e bb (by omega) (by omega)) (fun bb h1 => e bb (by omega) (by omega)) (fun k hk => by rcases hk with rfl | rfl <;> simp +decide only [zs_g, za_g, false_and, if_true, if_false]) (by simp +decide only [zs_g, za_g, false_and, if_true, if_false] <;> exact S.2.1) rfl W
  exact ⟨SS.sim, rfl⟩
def Q7_copy (M : zM) (x : Int32) (i : Int32) (y : Int32) (j : Int32) (n : Int32) (r : Int32) (M2 : zM) : Prop := ∃ nt np ah u len, SX M M nt np ah u len ∧ (((x < 0 ∨ 3 < x) ∨ (y < 0 ∨ 3 < y)) ∧ M2 = M ∧ r = -1 ∨ ¬ ((x < 0 ∨ 3 < x) ∨ (y < 0 ∨ 3 < y)) ∧ ∃ L1 L2, P7_copy M L1 L2 x i y j n r M2)
theorem q7_copy {l : Launch} {w : zE} (J : zJ w) {M : zM} {x : Int32} {i : Int32} {y : Int32} {j : Int32} {n : Int32} (S : Sim M) : zCi l w yX7_copy cX7_copy 8 (some .int) 3 [.ref (w.2.2 0), .int x, .int i, .int y, .int j, .int n] M (Q7_copy M x i y j n) := by
  obtain ⟨nt, np, ah, u, len, S⟩ := S
  by_cases hx : (x < 0 ∨ 3 < x) ∨ (y < 0 ∨ 3 < y)
  · exact zCi_post (fun r M2 h => ⟨nt, np, ah, u, len, S, Or.inl ⟨hx, h.1, h.2⟩⟩) (b7_copy J hx)
  · obtain ⟨q, hq, e⟩ := s4_in (fun z => hx (Or.inl z))
    obtain ⟨p, hp, e2⟩ := s4_in (x := y) (fun z => hx (Or.inr z))
    obtain ⟨_, ⟨L, hL, hA, hB⟩, _⟩ := S.2.2.2.2 q hq
    obtain ⟨_, ⟨L2, hL2, hA2, hB2⟩, _⟩ := S.2.2.2.2 p hp
    exact zCi_post (fun r M2 h => ⟨nt, np, ah, u, len, S, Or.inr ⟨hx, L, L2, h⟩⟩) (t7_copy J (L1 := L) (L2 := L2) (by rw [e, nI_clamp (by omega)]; exact hA) hL (by rw [e2, nI_clamp (by omega)]; exact hA2) hL2)
theorem q8_copy {l : Launch} {w : zE} (J : zJ w) {M M2 : zM} {x : Int32} {i : Int32} {y : Int32} {j : Int32} {n : Int32} {r : Int32} (h : Q7_copy M x i y j n r M2) : zCi l w yX8_copy cX8_copy 7 (some .int) 2 [.ref (w.2.2 138), .int x, .int i, .int y, .int j, .int n] M2 (fun r' M3 => Sim M3 ∧ r' = r) := by
  obtain ⟨nt, np, ah, u, len, S, h⟩ := h
  rcases h with ⟨hx, rfl, rfl⟩ | ⟨hx, L0, L00, h⟩
  · refine zCi_post (fun r' M3 q => ?_) (t8_copy J S.sz)
    rcases q with ⟨_, rfl, rfl⟩ | ⟨z, _⟩
    · exact ⟨S.sim, rfl⟩
    · exact absurd hx z
  obtain ⟨q0, hq, rfl⟩ := s4_in (fun z => hx (Or.inl z))
  obtain ⟨p0, hp, rfl⟩ := s4_in (x := y) (fun z => hx (Or.inr z))
  have e : (nI q0).toNatClampNeg = q0 := nI_clamp (by omega)
  have e2 : (nI p0).toNatClampNeg = p0 := nI_clamp (by omega)
  unfold P7_copy at h
  rw [e, e2] at h
  obtain ⟨H1, ⟨L, hL, hA, hB⟩, H3⟩ := S.2.2.2.2 q0 hq
  obtain ⟨G1, ⟨K, hK, gA, gB⟩, G3⟩ := S.2.2.2.2 p0 hp
  have h0 : M.1 (130 + 2 * q0) 0 = 0 ↔ M.1 150 q0 < 0 := by
    rcases H1 with ⟨a1, a2⟩ | ⟨a1, l, hl, a2, a3⟩
    · rw [a1, a2]; exact ⟨fun _ => by decide, fun _ => rfl⟩
    · rw [a1, a3]; exact ⟨fun z => absurd z (by decide), fun z => absurd z (nI_pos (by omega))⟩
  have g0 : M.1 (130 + 2 * p0) 0 = 0 ↔ M.1 150 p0 < 0 := by
    rcases G1 with ⟨a1, a2⟩ | ⟨a1, l, hl, a2, a3⟩
    · rw [a1, a2]; exact ⟨fun _ => by decide, fun _ => rfl⟩
    · rw [a1, a3]; exact ⟨fun z => absurd z (by decide), fun z => absurd z (nI_pos (by omega))⟩
  rw [h0, g0] at h
  rcases h with ⟨z, _⟩ | ⟨_, h⟩
  · exact absurd z hx
  rcases h with ⟨h1, rfl, rfl⟩ | ⟨h1, h⟩
  · refine zCi_post (fun r' M3 q => ?_) (t8_copy J S.sz)
    rcases q with ⟨z, _⟩ | ⟨_, j1, j2, hj1, hj2, ej1, ej2, q⟩
    · exact absurd z hx
    obtain rfl : q0 = j1 := (nI_eq (by omega) (by omega)).mp ej1
    obtain rfl : p0 = j2 := (nI_eq (by omega) (by omega)).mp ej2
    rcases q with ⟨_, rfl, rfl⟩ | ⟨z, _⟩
    · exact ⟨S.sim, rfl⟩
    · exact absurd h1 z
  obtain ⟨l, hl, h150, hl1⟩ : ∃ l, l < 4 ∧ M.1 150 q0 = nI l ∧ M.1 (130 + 2 * q0) 1 = nI l := by
    rcases H1 with ⟨a1, a2⟩ | ⟨a1, l, hl, a2, a3⟩
    · exact absurd (Or.inl (by rw [a2]; decide)) h1
    · exact ⟨l, hl, a3, a2⟩
  obtain ⟨l2, hl2, g150, gl1⟩ : ∃ l, l < 4 ∧ M.1 150 p0 = nI l ∧ M.1 (130 + 2 * p0) 1 = nI l := by
    rcases G1 with ⟨a1, a2⟩ | ⟨a1, l, hl, a2, a3⟩
    · exact absurd (Or.inr (by rw [a2]; decide)) h1
    · exact ⟨l, hl, a3, a2⟩
  rw [hl1, gl1, hA, gA] at h
  rw [h150, g150] at h1
  rcases h with ⟨h2, rfl, rfl⟩ | ⟨h2, h⟩
  · refine zCi_post (fun r' M3 q => ?_) (t8_copy J S.sz)
    rcases q with ⟨z, _⟩ | ⟨_, j1, j2, hj1, hj2, ej1, ej2, q⟩
    · exact absurd z hx
    obtain rfl : q0 = j1 := (nI_eq (by omega) (by omega)).mp ej1
    obtain rfl : p0 = j2 := (nI_eq (by omega) (by omega)).mp ej2
    rw [h150, g150] at q
    rcases q with ⟨z, _⟩ | ⟨_, q⟩
    · exact absurd z h1
    rcases q with ⟨_, rfl, rfl⟩ | ⟨z, _⟩
    · exact ⟨S.sim, rfl⟩
    · exact absurd z h2
  obtain rfl : l = l2 := (nI_eq (by omega) (by omega)).mp h2
  have cond : ((0 ≤ i ∧ 0 ≤ n ∧ n ≤ nI L ∧ i ≤ nI L - n) ∧ (0 ≤ j ∧ 0 ≤ n ∧ n ≤ nI K ∧ j ≤ nI K - n)) ↔ ¬ (n < 0 ∨ whyF (nI l) (nI L) (nI l) i n < 0 ∨ whyF (nI l) (nI K) (nI l) j n < 0) := by
    by_cases hn : n < 0
    · exact ⟨fun z => absurd z.1.2.1 (Int32.not_le.mpr hn), fun z => absurd (Or.inl hn) z⟩
    · obtain ⟨m, hm, rfl⟩ := nI_of hn
      rw [rg_cl hL hm, rg_cl hK hm, why_cp hl hL hm, why_cp hl hK hm]
      constructor
      · rintro ⟨a1, a2⟩ z
        rcases z with z | z | z
        · exact hn z
        · exact z a1
        · exact z a2
      · intro z
        exact ⟨Classical.byContradiction fun c => z (Or.inr (Or.inl c)), Classical.byContradiction fun c => z (Or.inr (Or.inr c))⟩
  rcases h with ⟨h3, rfl, rfl⟩ | ⟨h3, rfl, a, b, k, ea, eb, ek, hak, hbk, rfl⟩
  · refine zCi_post (fun r' M3 q => ?_) (t8_copy J S.sz)
    rcases q with ⟨z, _⟩ | ⟨_, j1, j2, hj1, hj2, ej1, ej2, q⟩
    · exact absurd z hx
    obtain rfl : q0 = j1 := (nI_eq (by omega) (by omega)).mp ej1
    obtain rfl : p0 = j2 := (nI_eq (by omega) (by omega)).mp ej2
    rw [h150, g150, hB, gB] at q
    rcases q with ⟨z, _⟩ | ⟨_, q⟩
    · exact absurd z h1
    rcases q with ⟨z, _⟩ | ⟨_, q⟩
    · exact absurd rfl z
    rcases q with ⟨_, rfl, rfl⟩ | ⟨z, _⟩
    · exact ⟨S.sim, rfl⟩
    · exact absurd (cond.mpr z) h3
  have m152 : (zya M (130 + 2 * p0 + 1) (va_cpy (M.2 (130 + 2 * q0 + 1)) (M.2 (130 + 2 * p0 + 1)) a b k)).2 152 = M.2 152 := va_up_ne _ _ (by omega)
  have S2 : SX M (zya M (130 + 2 * p0 + 1) (va_cpy (M.2 (130 + 2 * q0 + 1)) (M.2 (130 + 2 * p0 + 1)) a b k)) nt np ah u len := S.B (fun b hb => rfl) m152
  refine zCi_post (fun r' M3 q => ?_) (t8_copy J S2.sz)
  rcases q with ⟨z, _⟩ | ⟨_, j1, j2, hj1, hj2, ej1, ej2, q⟩
  · exact absurd z hx
  obtain rfl : q0 = j1 := (nI_eq (by omega) (by omega)).mp ej1
  obtain rfl : p0 = j2 := (nI_eq (by omega) (by omega)).mp ej2
  rw [show (zya M (130 + 2 * p0 + 1) (va_cpy (M.2 (130 + 2 * q0 + 1)) (M.2 (130 + 2 * p0 + 1)) a b k)).1 = M.1 from rfl, h150, g150, hB, gB, m152] at q
  rcases q with ⟨z, _⟩ | ⟨_, q⟩
  · exact absurd z h1
  rcases q with ⟨z, _⟩ | ⟨_, q⟩
  · exact absurd rfl z
  rcases q with ⟨z, _⟩ | ⟨_, rfl, a2, b2, k2, ea2, eb2, ek2, hak2, hbk2, rfl⟩
  · exact absurd z (cond.mp h3)
  obtain rfl : a = a2 := (nI_eq (by omega) (by omega)).mp (ea.symm.trans ea2)
  obtain rfl : b = b2 := (nI_eq (by omega) (by omega)).mp (eb.symm.trans eb2)
  obtain rfl : k = k2 := (nI_eq (by omega) (by omega)).mp (ek.symm.trans ek2)
  refine ⟨?_, rfl⟩
  generalize hG : mvL (M.2 152) (16 * q0 + a) ((zya M (130 + 2 * p0 + 1) (va_cpy (M.2 (130 + 2 * q0 + 1)) (M.2 (130 + 2 * p0 + 1)) a b k)).2 153) 0 k = G
  have gG : ∀ i, i < k → G i = M.2 152 (16 * q0 + a + i) := fun i hi => by rw [← hG, mvL_g, if_pos (by omega), Nat.sub_zero]
  have z2 : ∀ c, c ≠ 152 → c ≠ 153 → c ≠ 130 + 2 * p0 + 1 → (zya (zya (zya M (130 + 2 * p0 + 1) (va_cpy (M.2 (130 + 2 * q0 + 1)) (M.2 (130 + 2 * p0 + 1)) a b k)) 153 G) 152 (mvL G 0 (M.2 152) (16 * p0 + b) k)).2 c = M.2 c := fun c c1 c2 c3 => by
    show va_up (va_up (va_up M.2 (130 + 2 * p0 + 1) _) 153 G) 152 _ c = _
    rw [va_up_ne _ _ c1, va_up_ne _ _ c2, va_up_ne _ _ c3]
  have zp : (zya (zya (zya M (130 + 2 * p0 + 1) (va_cpy (M.2 (130 + 2 * q0 + 1)) (M.2 (130 + 2 * p0 + 1)) a b k)) 153 G) 152 (mvL G 0 (M.2 152) (16 * p0 + b) k)).2 (130 + 2 * p0 + 1) = va_cpy (M.2 (130 + 2 * q0 + 1)) (M.2 (130 + 2 * p0 + 1)) a b k := by
    show va_up (va_up (va_up M.2 (130 + 2 * p0 + 1) (va_cpy (M.2 (130 + 2 * q0 + 1)) (M.2 (130 + 2 * p0 + 1)) a b k)) 153 G) 152 (mvL G 0 (M.2 152) (16 * p0 + b) k) (130 + 2 * p0 + 1) = _
    rw [va_up_ne _ _ (by omega), va_up_ne _ _ (by omega), va_up_self]
  have z152 : (zya (zya (zya M (130 + 2 * p0 + 1) (va_cpy (M.2 (130 + 2 * q0 + 1)) (M.2 (130 + 2 * p0 + 1)) a b k)) 153 G) 152 (mvL G 0 (M.2 152) (16 * p0 + b) k)).2 152 = mvL G 0 (M.2 152) (16 * p0 + b) k := by
    show va_up (va_up (va_up M.2 (130 + 2 * p0 + 1) (va_cpy (M.2 (130 + 2 * q0 + 1)) (M.2 (130 + 2 * p0 + 1)) a b k)) 153 G) 152 (mvL G 0 (M.2 152) (16 * p0 + b) k) 152 = _
    exact va_up_self _ _ _
  refine (S.sheets (M3 := zya (zya (zya M (130 + 2 * p0 + 1) (va_cpy (M.2 (130 + 2 * q0 + 1)) (M.2 (130 + 2 * p0 + 1)) a b k)) 153 G) 152 (mvL G 0 (M.2 152) (16 * p0 + b) k)) (fun b hb => rfl) (fun b hb => rfl) (fun k _ _ _ => rfl) S.2.1 (fun q hq2 => ?_)).sim
  obtain ⟨J1, J2, J3⟩ := S.2.2.2.2 q hq2
  refine ⟨J1, J2, fun i hi => ?_⟩
  rw [z152]
  by_cases z : q = p0
  · subst z
    rw [zp, mvL_g]
    by_cases c : b ≤ i ∧ i < b + k
    · rw [pk_cpy_in c.1 c.2, if_pos (by omega), Nat.zero_add, show 16 * q + i - (16 * q + b) = i - b by omega, gG _ (by omega), H3 _ (by omega), Nat.add_assoc]
    · rw [pk_cpy_out (by omega), if_neg (by omega)]
      exact J3 i hi
  · rw [z2 _ (by omega) (by omega) (by omega), mvL_g, if_neg (by omega)]
    exact J3 i hi
