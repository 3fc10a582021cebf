/-! what calls that change the world need -/
theorem za_g (M : zM) (b : Nat) (f : zF1) (b' o' : Nat) : (za M b f).1 b' o' = if b' = b then f o' else M.1 b' o' := by
  by_cases h : b' = b
  · subst h; rw [za_at, if_pos rfl]
  · rw [za_off _ h, if_neg h]
theorem WN.past {M M3 : zM} {nt np a u : Nat} (W : WN M M nt np a u) (e18 : M3.1 18 = M.1 18) (e19 : ∀ k, k < 8 → M3.1 (19 + 2 * k) = M.1 (19 + 2 * k)) (e145 : M3.1 145 = M.1 145) : (∀ j, j < u → ∃ d, trx np d s5 (M3.1 (19 + 2 * (M3.1 18 j).toNatClampNeg)) (rowT (M3.1 145) j)) ∧ (∀ j, j < u → tOK nt np (rowT (M3.1 145) j)) ∧ pmF (M3.1 18) := by
  obtain ⟨⟨b1, b2, b3, b4⟩, _, _, _, _, pm, ps, _, _, pk⟩ := W
  rw [e18, e145]
  refine ⟨fun j hj => ?_, pk, pm⟩
  rw [e19 _ (pm_n pm (by omega))]
  exact ps j hj
theorem WN.mk {M : zM} {nt np a u : Nat} (b : nt ≤ 10 ∧ np ≤ 8 ∧ a ≤ 12 ∧ u ≤ 8) (c : M.1 2 0 = nI nt ∧ M.1 2 1 = nI np ∧ M.1 2 2 = M.1 138 5 ∧ M.1 2 3 = M.1 138 6 ∧ M.1 1 3 = nI u) (r : M.1 138 0 = nI nt ∧ M.1 138 1 = nI np ∧ M.1 138 20 = nI u) (h : thE nt (M.1 3) (M.1 139) ∧ peE np (M.1 14) (M.1 140)) (t : ∃ d, trx np d s5 (M.1 16) (M.1 141)) (p : (∀ j, j < u → ∃ d, trx np d s5 (M.1 (19 + 2 * (M.1 18 j).toNatClampNeg)) (rowT (M.1 145) j)) ∧ (∀ j, j < u → tOK nt np (rowT (M.1 145) j)) ∧ pmF (M.1 18)) (k : kdOK (M.1 139) ∧ wOK nt (M.1 139) ∧ mOK np (M.1 140)) (tk : tOK nt np (M.1 141) ∧ M.1 141 3 = nI a) : WN M M nt np a u := ⟨b, c, r, h, t, p.2.2, p.1, k, tk, p.2.1⟩
theorem setF_cg {nt : Nat} {f g : zF1} (h : thE nt f g) (a b c d : Int32) : thE (nt + 1) (setF f nt a b c d) (setF g nt a b c d) := by
  intro q hq
  unfold setF
  simp only [va_g]
  by_cases z : q < 4 * nt
  · rw [if_neg (by omega), if_neg (by omega), if_neg (by omega), if_neg (by omega), if_neg (by omega), if_neg (by omega), if_neg (by omega), if_neg (by omega)]
    exact h q z
  · by_cases z3 : q = 4 * nt + 3
    · rw [if_pos z3, if_pos z3]
    rw [if_neg z3, if_neg z3]
    by_cases z2 : q = 4 * nt + 2
    · rw [if_pos z2, if_pos z2]
    rw [if_neg z2, if_neg z2]
    by_cases z1 : q = 4 * nt + 1
    · rw [if_pos z1, if_pos z1]
    rw [if_neg z1, if_neg z1, if_pos (by omega), if_pos (by omega)]
theorem setF_at (f : zF1) (nt : Nat) (a b c d : Int32) : setF f nt a b c d (4 * nt) = a ∧ setF f nt a b c d (4 * nt + 1) = b := by
  unfold setF
  refine ⟨?_, ?_⟩
  · rw [va_up_ne _ _ (by omega), va_up_ne _ _ (by omega), va_up_ne _ _ (by omega), va_up_self]
  · rw [va_up_ne _ _ (by omega), va_up_ne _ _ (by omega), va_up_self]
theorem setF_off (f : zF1) (nt : Nat) (a b c d : Int32) {q : Nat} (h : q < 4 * nt ∨ 4 * nt + 3 < q) : setF f nt a b c d q = f q := by
  unfold setF
  rw [va_up_ne _ _ (by omega), va_up_ne _ _ (by omega), va_up_ne _ _ (by omega), va_up_ne _ _ (by omega)]
theorem in_n {x : Int32} {n : Nat} (M : Int32) (hM : M.toInt = n) (h : ¬ (x < 0 ∨ M < x)) : ∃ j, j ≤ n ∧ x = nI j := nI_of2 hM (fun z => h (Or.inl z)) (Int32.not_lt.mp fun z => h (Or.inr z))
theorem vx_up {nt : Nat} {x : Int32} (h : vx nt x) : vx (nt + 1) x := by
  rcases h with h | ⟨j, hj, h⟩
  · exact Or.inl h
  · exact Or.inr ⟨j, by omega, h⟩
theorem whoFF_cg {np : Nat} {d x : Int32} {T T' : zF1} (h8 : np ≤ 8) (t : trx np d s5 T T') : whoF T np x = -4 ↔ whoF T' np x = -4 := by rw [who_cg h8 t, whoR_none h8]
theorem tOK.upT {nt np : Nat} {T : zF1} (h : tOK nt np T) : tOK (nt + 1) np T := by
  obtain ⟨⟨h1, h2, h3⟩, h4⟩ := h
  exact ⟨⟨vx_up h1, fun p hp => vx_up (h2 p hp), h3⟩, h4⟩
theorem tOK.take {nt np : Nat} {T : zF1} {x : Int32} (h : tOK nt np T) (hx : vx nt x) (hn : ∀ p, p < np → T (5 + p) = x → x = -4) : tOK nt np (va_up (va_up T 0 x) 1 0) := by
  obtain ⟨h1, h2, h3, b, h4, h5⟩ := h
  refine ⟨tv9_up1 (tv9_up0 h1 hx) 1 _ (Or.inl rfl), ⟨fun p hp z => ?_, fun p q hp hq z y => ?_⟩, fun _ => va_up_self _ _ _, b, h4, ?_⟩
  · rw [va_up_ne _ _ (by omega), va_up_ne _ _ (by omega)] at z
    simp +decide only [va_g, if_true, if_false] at z ⊢
    exact hn p hp z
  · rw [va_up_ne _ _ (by omega), va_up_ne _ _ (by omega), va_up_ne _ _ (by omega), va_up_ne _ _ (by omega)] at z
    rw [va_up_ne _ _ (by omega), va_up_ne _ _ (by omega)] at y
    exact h2.2 p q hp hq z y
  · rw [va_up_ne _ _ (by decide), va_up_ne _ _ (by decide)]; exact h5
theorem tOK.person {nt np : Nat} {T : zF1} {x : Int32} (h : tOK nt np T) (h8 : np < 8) (hx : vx nt x) (hn : x = -4 ∨ (¬ T 0 = x ∧ ∀ p, p < np → ¬ T (5 + p) = x)) : tOK nt (np + 1) (va_up T (5 + np) x) := by
  obtain ⟨h1, h2, h3, b, h4, h5⟩ := h
  refine ⟨tv9_up5 h1 np hx, ⟨fun p hp z => ?_, fun p q hp hq z y => ?_⟩, fun z => ?_, b, h4, ?_⟩
  · rw [va_up_ne _ _ (show 0 ≠ 5 + np by omega)] at z ⊢
    by_cases e : p = np
    · subst e
      rw [va_up_self] at z
      rcases hn with hn | hn
      · exact z.symm.trans hn
      · exact absurd z.symm hn.1
    · rw [va_up_ne _ _ (by omega)] at z
      exact h2.1 p (by omega) z
  · by_cases e : p = np
    · by_cases e2 : q = np
      · omega
      · subst e
        rw [va_up_self, va_up_ne _ _ (by omega)] at z
        rw [va_up_self] at y
        exact absurd z.symm ((hn.resolve_left y).2 q (by omega))
    · by_cases e2 : q = np
      · subst e2
        rw [va_up_self, va_up_ne _ _ (by omega)] at z
        rw [va_up_ne _ _ (by omega)] at y
        rcases hn with hn | hn
        · exact absurd (z.trans hn) y
        · exact absurd z (hn.2 p (by omega))
      · rw [va_up_ne _ _ (by omega), va_up_ne _ _ (by omega)] at z
        rw [va_up_ne _ _ (by omega)] at y
        exact h2.2 p q (by omega) (by omega) z y
  · rw [va_up_ne _ _ (by omega)] at z ⊢; exact h3 z
  · rw [va_up_ne _ _ (by omega)]; exact h5
theorem trx_take {np : Nat} {d x : Int32} {T T' : zF1} (t : trx np d s5 T T') : trx np d s5 (va_up (va_up T 0 x) 1 0) (va_up (va_up T' 0 x) 1 0) := by
  obtain ⟨t0, t1, t2, t3, t4, t5⟩ := t
  refine ⟨?_, ?_, ?_, ?_, ?_, fun p hp => ?_⟩
  · simp +decide only [va_g, if_true, if_false]
  · simp +decide only [va_g, if_true]
  · simp +decide only [va_g, if_false, t2]
  · simp +decide only [va_g, if_false, t3]
  · simp +decide only [va_g, if_false, t4]
  · unfold s5
    rw [va_up_ne _ _ (by omega), va_up_ne _ _ (by omega), va_up_ne _ _ (by omega), va_up_ne _ _ (by omega)]
    exact t5 p hp
theorem zs_fn (M : zM) (b o : Nat) (v : Int32) : (zs M b o v).1 b = va_up (M.1 b) o v := zs_at M b o v
theorem trx_ext {np : Nat} {d : Int32} {T T' T2 : zF1} (h8 : np ≤ 8) (t : trx np d s5 T T') (e : ∀ q, q < 14 → T2 q = T' q) : trx np d s5 T T2 := by
  obtain ⟨t0, t1, t2, t3, t4, t5⟩ := t
  refine ⟨by rw [e 0 (by omega)]; exact t0, by rw [e 1 (by omega)]; exact t1, by rw [e 2 (by omega)]; exact t2, by rw [e 3 (by omega)]; exact t3, by rw [e 4 (by omega)]; exact t4, fun p hp => ?_⟩
  rw [e (s5 p) (by unfold s5; omega)]
  exact t5 p hp
theorem tOK_ext {nt np : Nat} {T' T2 : zF1} (h8 : np ≤ 8) (t : tOK nt np T') (e : ∀ q, q < 14 → T2 q = T' q) : tOK nt np T2 := by
  obtain ⟨⟨v0, v5, v2⟩, ⟨u1, u2⟩, z, b, h4, h5⟩ := t
  have e5 : ∀ p, p < 9 → T2 (5 + p) = T' (5 + p) := fun p hp => e _ (by omega)
  refine ⟨⟨by rw [e 0 (by omega)]; exact v0, fun p hp => by rw [e5 p hp]; exact v5 p hp, by rw [e 2 (by omega)]; exact v2⟩, uq_eq ⟨u1, u2⟩ (e 0 (by omega)) (fun p hp => e5 p (by omega)), fun h => ?_, b, h4, by rw [e 3 (by omega)]; exact h5⟩
  rw [e 0 (by omega)] at h
  rw [e 1 (by omega)]
  exact z h
/-- a milestone leaves what is known of the latest ones alike -/
theorem go_past {M : zM} {nt np a u : Nat} (W : WN M M nt np a u) (T1 : zF1) (rf : Int32) : (zt (remF M 1 u) 16 T1 rf).1 16 = T1 ∧ (zt (remF M 1 u) 16 T1 rf).1 1 3 = nI (notN u) ∧ (∀ b, b ≠ 1 → b ≠ 16 → b ≠ 17 → b ≠ 18 → (∀ k, k < 8 → b ≠ 19 + 2 * k) → (zt (remF M 1 u) 16 T1 rf).1 b = M.1 b) ∧ (zt (remF M 1 u) 16 T1 rf).2 = M.2 ∧ pmF ((zt (remF M 1 u) 16 T1 rf).1 18) ∧ (∀ j, j < notN u → ∃ d, trx np d s5 ((zt (remF M 1 u) 16 T1 rf).1 (19 + 2 * ((zt (remF M 1 u) 16 T1 rf).1 18 j).toNatClampNeg)) (rowT (notU (M.1 145) (M.1 141) u) j)) ∧ (∀ j, j < notN u → tOK nt np (rowT (notU (M.1 145) (M.1 141) u) j)) := by
  obtain ⟨⟨b1, b2, b3, b4⟩, ⟨_, _, _, _, c5⟩, _, _, tr, pm, ps, _, ⟨tk, _⟩, pk⟩ := W
  have tr : ∃ d, trx np d s5 (M.1 16) (M.1 141) := tr
  have pm : pmF (M.1 18) := pm
  have ps : ∀ j, j < u → ∃ d, trx np d s5 (M.1 (19 + 2 * (M.1 18 j).toNatClampNeg)) (rowT (M.1 145) j) := ps
  by_cases h8 : u < 8
  · have ef : remF M 1 u = zs (za M (19 + 2 * (M.1 18 u).toNatClampNeg) (M.1 16)) 1 3 (nI (u + 1)) := by unfold remF; rw [if_pos h8]
    have eN : notN u = u + 1 := if_neg (by omega)
    have eU : notU (M.1 145) (M.1 141) u = rowU (M.1 145) (M.1 141) u 14 := if_neg (by omega)
    have ku := pm_n pm h8
    have e18 : (zt (remF M 1 u) 16 T1 rf).1 18 = M.1 18 := by rw [zt_off (by omega) (by omega), ef, zs_off _ (by omega), za_off _ (by omega)]
    have r1 : ∀ j, j < u → ∀ q, q < 14 → rowT (rowU (M.1 145) (M.1 141) u 14) j q = rowT (M.1 145) j q := fun j hj q hq => by
      unfold rowT rowU
      rw [if_neg (by omega)]
    have r2 : ∀ q, q < 14 → rowT (rowU (M.1 145) (M.1 141) u 14) u q = M.1 141 q := fun q hq => by
      unfold rowT rowU
      rw [if_pos (by omega), show 14 * u + q - 14 * u = q by omega]
    refine ⟨zt_t _ _ _ _, ?_, fun b h1 h2 h3 h4 h5 => ?_, ?_, by rw [e18]; exact pm, fun j hj => ?_, fun j hj => ?_⟩
    · rw [zt_off (by omega) (by omega), ef, zs_at, va_up_self, eN]
    · rw [zt_off (by omega) (by omega), ef, zs_off _ h1, za_off _ (h5 _ ku)]
    · rw [zt_2, ef]; rfl
    · rw [e18, eU]
      have kj := pm_n pm (k := j) (by omega)
      by_cases z : j = u
      · subst z
        obtain ⟨d, t⟩ := tr
        refine ⟨d, trx_ext b2 ?_ r2⟩
        rw [zt_off (by omega) (by omega), ef, zs_off _ (by omega), za_at]
        exact t
      · obtain ⟨d, t⟩ := ps j (by omega)
        refine ⟨d, trx_ext b2 ?_ (r1 j (by omega))⟩
        rw [zt_off (by omega) (by omega), ef, zs_off _ (by omega), za_off _ (fun y => z (pm.inj (by omega) h8 (by omega)))]
        exact t
    · rw [eU]
      by_cases z : j = u
      · subst z; exact tOK_ext b2 tk r2
      · exact tOK_ext b2 (pk j (by omega)) (r1 j (by omega))
  · obtain rfl : u = 8 := by omega
    have ef : remF M 1 8 = zs (za (za M 18 (rotF (M.1 18))) (19 + 2 * (M.1 18 0).toNatClampNeg) (M.1 16)) 1 3 8 := rfl
    have eN : notN 8 = 8 := rfl
    have eU : notU (M.1 145) (M.1 141) 8 = rowU (shfF (M.1 145) 98) (M.1 141) 7 14 := rfl
    have k0 := pm_n pm (k := 0) (by omega)
    have e18 : (zt (remF M 1 8) 16 T1 rf).1 18 = rotF (M.1 18) := by rw [zt_off (by omega) (by omega), ef, zs_off _ (by omega), za_off _ (by omega), za_at]
    have r1 : ∀ j, j < 7 → ∀ q, q < 14 → rowT (rowU (shfF (M.1 145) 98) (M.1 141) 7 14) j q = rowT (M.1 145) (j + 1) q := fun j hj q hq => by
      unfold rowT rowU shfF
      rw [if_neg (by omega), if_pos (by omega), show 14 * j + q + 14 = 14 * (j + 1) + q by omega]
    have r2 : ∀ q, q < 14 → rowT (rowU (shfF (M.1 145) 98) (M.1 141) 7 14) 7 q = M.1 141 q := fun q hq => by
      unfold rowT rowU
      rw [if_pos (by omega), show 14 * 7 + q - 14 * 7 = q by omega]
    refine ⟨zt_t _ _ _ _, ?_, fun b h1 h2 h3 h4 h5 => ?_, ?_, by rw [e18]; exact rotF_pm pm, fun j hj => ?_, fun j hj => ?_⟩
    · rw [zt_off (by omega) (by omega), ef, zs_at, va_up_self, eN]; rfl
    · rw [zt_off (by omega) (by omega), ef, zs_off _ h1, za_off _ (h5 _ k0), za_off _ h4]
    · rw [zt_2, ef]; rfl
    · rw [e18, eU]
      rw [eN] at hj
      by_cases z : j = 7
      · subst z
        obtain ⟨d, t⟩ := tr
        refine ⟨d, trx_ext b2 ?_ r2⟩
        rw [show rotF (M.1 18) 7 = M.1 18 0 from rfl, zt_off (by omega) (by omega), ef, zs_off _ (by omega), za_at]
        exact t
      · obtain ⟨d, t⟩ := ps (j + 1) (by omega)
        have kj := pm_n pm (k := j + 1) (by omega)
        refine ⟨d, trx_ext b2 ?_ (r1 j (by omega))⟩
        rw [show rotF (M.1 18) j = M.1 18 (j + 1) from if_pos (by omega), zt_off (by omega) (by omega), ef, zs_off _ (by omega), za_off _ (fun y => by have := pm.inj (a := j + 1) (b := 0) (by omega) (by omega) (by omega); omega), za_off _ (by omega)]
        exact t
    · rw [eN] at hj
      rw [eU]
      by_cases z : j = 7
      · subst z; exact tOK_ext b2 tk r2
      · exact tOK_ext b2 (pk (j + 1) (by omega)) (r1 j (by omega))
