/-! the image, in pairs -/
theorem ntL_g (f : zF1) (k0 : Nat) (g : zF1) : ∀ (n q : Nat), ntL f k0 g n q = if k0 ≤ q ∧ q < k0 + n then f (q - k0) else g q := by
  intro n
  induction n with
  | zero => intro q; rw [if_neg (by omega)]; rfl
  | succ n ih =>
    intro q
    rw [ntL, va_g, ih]
    by_cases z : q = k0 + n
    · rw [if_pos z, if_pos (by omega), show q - k0 = n by omega]
    · rw [if_neg z]
      by_cases y : k0 ≤ q ∧ q < k0 + n
      · rw [if_pos y, if_pos (by omega)]
      · rw [if_neg y, if_neg (by omega)]
theorem gvL_g (f : zF1) (k0 : Nat) (g : zF1) : ∀ (n q : Nat), gvL f k0 g n q = if q < n then f (k0 + q) else g q := by
  intro n
  induction n with
  | zero => intro q; rw [if_neg (by omega)]; rfl
  | succ n ih =>
    intro q
    rw [gvL, va_g, ih]
    by_cases z : q = n
    · rw [if_pos z, if_pos (by omega), z]
    · rw [if_neg z]
      by_cases y : q < n
      · rw [if_pos y, if_pos (by omega)]
      · rw [if_neg y, if_neg (by omega)]
theorem imF_at (M : zM) : (imF M 138 0 = M.1 138 0 ∧ imF M 138 1 = M.1 138 1 ∧ imF M 138 2 = M.1 138 5 ∧ imF M 138 3 = M.1 138 6 ∧ imF M 138 4 = M.1 138 20) ∧ (∀ q, q < 40 → imF M 138 (5 + q) = M.1 139 q) ∧ (∀ q, q < 16 → imF M 138 (45 + q) = M.1 140 q) ∧ (∀ q, q < 14 → imF M 138 (61 + q) = M.1 141 q) ∧ (∀ q, q < 112 → imF M 138 (75 + q) = M.1 145 q) := by
  unfold imF
  refine ⟨⟨?_, ?_, ?_, ?_, ?_⟩, fun q hq => ?_, fun q hq => ?_, fun q hq => ?_, fun q hq => ?_⟩
  · rw [ntL_g, if_neg (by omega), ntL_g, if_neg (by omega), ntL_g, if_neg (by omega), ntL_g, if_neg (by omega)]; simp +decide only [va_g, if_true, if_false]
  · rw [ntL_g, if_neg (by omega), ntL_g, if_neg (by omega), ntL_g, if_neg (by omega), ntL_g, if_neg (by omega)]; simp +decide only [va_g, if_true, if_false]
  · rw [ntL_g, if_neg (by omega), ntL_g, if_neg (by omega), ntL_g, if_neg (by omega), ntL_g, if_neg (by omega)]; simp +decide only [va_g, if_true, if_false]
  · rw [ntL_g, if_neg (by omega), ntL_g, if_neg (by omega), ntL_g, if_neg (by omega), ntL_g, if_neg (by omega)]; simp +decide only [va_g, if_true, if_false]
  · rw [ntL_g, if_neg (by omega), ntL_g, if_neg (by omega), ntL_g, if_neg (by omega), ntL_g, if_neg (by omega)]; simp +decide only [va_g, if_true, if_false]
  · rw [ntL_g, if_neg (by omega), ntL_g, if_neg (by omega), ntL_g, if_neg (by omega), ntL_g, if_pos (by omega), show 5 + q - 5 = q by omega]
  · rw [ntL_g, if_neg (by omega), ntL_g, if_neg (by omega), ntL_g, if_pos (by omega), show 45 + q - 45 = q by omega]
  · rw [ntL_g, if_neg (by omega), ntL_g, if_pos (by omega), show 61 + q - 61 = q by omega]
  · rw [ntL_g, if_pos (by omega), show 75 + q - 75 = q by omega]
theorem WR.ext {A : zM} {n : Nat} {R0 R1 R5 R6 R20 : Int32} {th pe T U th' pe' T' U' : zF1} {nt np a u : Nat} (h : WR A n R0 R1 R5 R6 R20 th pe T U nt np a u) (e1 : ∀ q, q < 40 → th' q = th q) (e2 : ∀ q, q < 16 → pe' q = pe q) (e3 : ∀ q, q < 14 → T' q = T q) (e4 : ∀ q, q < 112 → U' q = U q) : WR A n R0 R1 R5 R6 R20 th' pe' T' U' nt np a u := by
  obtain ⟨⟨b1, b2, b3, b4⟩, h2, h3, ⟨h4, h4'⟩, ⟨d, h5⟩, h6, h7, ⟨k1, k2, k3⟩, ⟨h9, h9'⟩, h10⟩ := h
  have er : ∀ j, j < u → ∀ q, q < 14 → rowT U' j q = rowT U j q := fun j hj q hq => e4 _ (by omega)
  refine ⟨⟨b1, b2, b3, b4⟩, h2, h3, ⟨fun q hq => (h4 q hq).trans (e1 q (by omega)).symm, fun q hq => (h4' q hq).trans (e2 q (by omega)).symm⟩, ⟨d, trx_ext b2 h5 e3⟩, h6, fun j hj => ?_, ⟨fun j hj => ?_, fun j hj => ?_, fun j hj => ?_⟩, ⟨tOK_ext b2 h9 e3, (e3 3 (by omega)).trans h9'⟩, fun j hj => tOK_ext b2 (h10 j hj) (er j hj)⟩
  · obtain ⟨d2, t⟩ := h7 j hj
    exact ⟨d2, trx_ext b2 t (er j hj)⟩
  · rw [e1 _ (by omega)]; exact k1 j hj
  · rw [e1 _ (by omega)]; exact k2 j hj
  · rw [e2 _ (by omega)]; exact k3 j hj
theorem WR.mv {A A' : zM} {n n' : Nat} {R0 R1 R5 R6 R20 : Int32} {th pe T U : zF1} {nt np a u : Nat} (h : WR A n R0 R1 R5 R6 R20 th pe T U nt np a u) (e1 : A'.1 (n' + 1) = A.1 (n + 1)) (e2 : A'.1 (n' + 2) = A.1 (n + 2)) (e3 : A'.1 (n' + 13) = A.1 (n + 13)) (e4 : A'.1 (n' + 15) = A.1 (n + 15)) (e5 : A'.1 n' 3 = A.1 n 3) (pm : pmF (A'.1 (n' + 17))) (e6 : ∀ k, k < u → A'.1 (n' + 18 + 2 * (A'.1 (n' + 17) k).toNatClampNeg) = A.1 (n + 18 + 2 * (A.1 (n + 17) k).toNatClampNeg)) : WR A' n' R0 R1 R5 R6 R20 th pe T U nt np a u := by
  obtain ⟨h1, h2, h3, h4, h5, h6, h7, h8, h9, h10⟩ := h
  refine ⟨h1, ?_, h3, ?_, ?_, pm, fun j hj => ?_, h8, h9, h10⟩
  · rw [e1, e5]; exact h2
  · rw [e2, e3]; exact h4
  · rw [e4]; exact h5
  · rw [e6 j hj]; exact h7 j hj
/-- one world set from another -/
theorem set_w {M : zM} {i i2 u : Nat} (hi : i = 1 ∧ i2 = 35 ∨ i = 35 ∧ i2 = 1) (pm : pmF (M.1 (i + 17))) (pm2 : pmF (M.1 (i2 + 17))) (hu : u ≤ 8) : (cpP (wcF M i i2) i i2 u).1 (i + 1) = M.1 (i2 + 1) ∧ (cpP (wcF M i i2) i i2 u).1 (i + 2) = M.1 (i2 + 2) ∧ (cpP (wcF M i i2) i i2 u).1 (i + 13) = M.1 (i2 + 13) ∧ (cpP (wcF M i i2) i i2 u).1 (i + 15) = M.1 (i2 + 15) ∧ (cpP (wcF M i i2) i i2 u).1 i 3 = M.1 i2 3 ∧ (cpP (wcF M i i2) i i2 u).1 (i + 17) = M.1 (i + 17) ∧ (∀ k, k < u → (cpP (wcF M i i2) i i2 u).1 (i + 18 + 2 * (M.1 (i + 17) k).toNatClampNeg) = M.1 (i2 + 18 + 2 * (M.1 (i2 + 17) k).toNatClampNeg)) ∧ (∀ b, (b < i ∨ i + 34 ≤ b) → (cpP (wcF M i i2) i i2 u).1 b = M.1 b) ∧ (cpP (wcF M i i2) i i2 u).2 = M.2 := by
  have w17 : (wcF M i i2).1 (i + 17) = M.1 (i + 17) := wcF_off (by omega) (by omega) (by omega) (by omega) (by omega)
  have v17 : (wcF M i i2).1 (i2 + 17) = M.1 (i2 + 17) := wcF_off (by omega) (by omega) (by omega) (by omega) (by omega)
  have pm' : pmF ((wcF M i i2).1 (i + 17)) := by rw [w17]; exact pm
  have off := fun b hb => cpP_off (i2 := i2) pm' u (b := b) hu hb
  refine ⟨?_, ?_, ?_, ?_, ?_, ?_, fun k hk => ?_, fun b hb => ?_, ?_⟩
  · rw [off _ (by omega)]; unfold wcF zrd; rw [zs_off _ (by omega), za_off _ (by omega), za_at]
  · rw [off _ (by omega)]; unfold wcF zrd; rw [zs_off _ (by omega), za_off _ (by omega), za_off _ (by omega), za_off _ (by omega)]; exact za_at _ _ _
  · rw [off _ (by omega)]; unfold wcF zrd; rw [zs_off _ (by omega), za_off _ (by omega), za_off _ (by omega)]; exact za_at _ _ _
  · rw [off _ (by omega)]; unfold wcF; rw [zs_off _ (by omega), za_at]
  · rw [off _ (by omega)]; unfold wcF; rw [zs_at, va_up_self]
  · rw [off _ (by omega), w17]
  · have := cpP_at (i2 := i2) pm' u k hu hk
    rw [w17, v17] at this
    rw [this]
    have k8 := pm_n pm2 (k := k) (by omega)
    exact wcF_off (by omega) (by omega) (by omega) (by omega) (by omega)
  · rw [off _ (by omega)]; exact wcF_off (by omega) (by omega) (by omega) (by omega) (by omega)
  · rw [cpP_2]; rfl
def Q7_image (M : zM) (r : Int32) (M2 : zM) : Prop := ∃ nt np ah u len, SX M M nt np ah u len ∧ P7_image M u r M2
theorem q7_image {l : Launch} {w : zE} (J : zJ w) {M : zM} (S : Sim M) : zCi l w yX7_image cX7_image 1 (some .int) 3 [.ref (w.2.2 0)] M (Q7_image M) := by
  obtain ⟨nt, np, ah, u, len, S⟩ := S
  exact zCi_post (fun r M2 h => ⟨nt, np, ah, u, len, S, h⟩) (t7_image J S.pm S.2.2.1.1 S.cf.2.2.2.2 S.bd.2.2.2)
theorem q8_image {l : Launch} {w : zE} (J : zJ w) {M M2 : zM} {r : Int32} (h : Q7_image M r M2) : zCi l w yX8_image cX8_image 2 (some .int) 1 [.ref (w.2.2 138)] M2 (fun r' M3 => Sim M3 ∧ r' = r) := by
  obtain ⟨nt, np, ah, u, len, S, h⟩ := h
  obtain ⟨rfl, rfl⟩ := h
  obtain ⟨c1, c2, c3, c4, c5, c6, c7, c8, c9⟩ := set_w (M := M) (i := 35) (i2 := 1) (u := u) (Or.inr ⟨rfl, rfl⟩) S.2.2.1.1 S.pm S.bd.2.2.2
  generalize cpP (wcF M 35 1) 35 1 u = N at c1 c2 c3 c4 c5 c6 c7 c8 c9
  refine zCi_post (fun r' M3 q => ?_) (t8_image J)
  obtain ⟨rfl, rfl⟩ := q
  refine ⟨?_, rfl⟩
  have eN : ∀ b, 138 ≤ b → (zs N 0 2 1).1 b = M.1 b := fun b hb => by rw [zs_off _ (by omega)]; exact c8 b (by omega)
  obtain ⟨⟨i0, i1, i2, i3, i4⟩, j1, j2, j3, j4⟩ := imF_at (zs N 0 2 1)
  rw [eN 138 (by omega)] at i0 i1 i2 i3 i4
  rw [eN 139 (by omega)] at j1
  rw [eN 140 (by omega)] at j2
  rw [eN 141 (by omega)] at j3
  rw [eN 145 (by omega)] at j4
  generalize imF (zs N 0 2 1) 138 = I at i0 i1 i2 i3 i4 j1 j2 j3 j4
  have e : ∀ b, b ≠ 0 → b ≠ 138 → b ≠ 149 → (b < 35 ∨ 69 ≤ b) → (zs (za (zs N 0 2 1) 149 I) 138 25 1).1 b = M.1 b := fun b h1 h2 h3 h4 => by rw [zs_off _ h2, za_off _ h3, zs_off _ h1]; exact c8 b (by omega)
  have eK : ∀ b, 35 ≤ b → b < 69 → (zs (za (zs N 0 2 1) 149 I) 138 25 1).1 b = N.1 b := fun b h1 h2 => by rw [zs_off _ (by omega), za_off _ (by omega), zs_off _ (by omega)]
  have e8 : ∀ k, k ≠ 25 → (zs (za (zs N 0 2 1) 149 I) 138 25 1).1 138 k = M.1 138 k := fun k hk => by rw [zs_g, if_neg (by omega), za_off _ (by decide)]; exact congrFun (eN 138 (by omega)) k
  have e25 : (zs (za (zs N 0 2 1) 149 I) 138 25 1).1 138 25 = 1 := by rw [zs_at, va_up_self]
  have e0 : (zs (za (zs N 0 2 1) 149 I) 138 25 1).1 0 2 = 1 := by rw [zs_off _ (by decide), za_off _ (by decide), zs_at, va_up_self]
  have e149 : (zs (za (zs N 0 2 1) 149 I) 138 25 1).1 149 = I := by rw [zs_off _ (by decide), za_at]
  have e2 : (zs (za (zs N 0 2 1) 149 I) 138 25 1).2 = M.2 := c9
  generalize zs (za (zs N 0 2 1) 149 I) 138 25 1 = Z at e eK e8 e25 e0 e149 e2
  obtain ⟨w, ts, ⟨k1, k2, k3⟩, ⟨t1, t2, t3, t4, t5⟩, sh⟩ := S
  refine ⟨nt, np, ah, u, len, ?_, by rw [e8 8 (by decide)]; exact ts, ⟨by rw [eK 52 (by omega) (by omega), c6]; exact k1, by rw [e0, e25], fun _ => ⟨nt, np, ah, u, ?_⟩⟩, ⟨by rw [e 69 (by decide) (by decide) (by decide) (by decide)]; exact t1, by rw [e8 10 (by decide)]; exact t2, t3, by rw [e 70 (by decide) (by decide) (by decide) (by decide), e 142 (by decide) (by decide) (by decide) (by decide)]; exact t4, by rw [e 70 (by decide) (by decide) (by decide) (by decide)]; exact t5⟩, fun q hq => ?_⟩
  · unfold WN
    rw [e8 0 (by decide), e8 1 (by decide), e8 5 (by decide), e8 6 (by decide), e8 20 (by decide), e 139 (by decide) (by decide) (by decide) (by decide), e 140 (by decide) (by decide) (by decide) (by decide), e 141 (by decide) (by decide) (by decide) (by decide), e 145 (by decide) (by decide) (by decide) (by decide)]
    exact WR.A w (fun b h1 h2 => e b (by omega) (by omega) (by omega) (by omega))
  · unfold WK
    rw [e149, i0, i1, i2, i3, i4]
    have pmM : pmF (M.1 52) := k1
    refine WR.ext (WR.mv w ?_ ?_ ?_ ?_ ?_ ?_ (fun k hk => ?_)) j1 j2 j3 j4
    · rw [eK _ (by omega) (by omega)]; exact c1
    · rw [eK _ (by omega) (by omega)]; exact c2
    · rw [eK _ (by omega) (by omega)]; exact c3
    · rw [eK _ (by omega) (by omega)]; exact c4
    · rw [eK _ (by omega) (by omega)]; exact c5
    · rw [eK _ (by omega) (by omega), c6]; exact pmM
    · rw [eK (35 + 17) (by omega) (by omega), c6]
      have h8 := w.1.2.2.2
      have k8 := pm_n pmM (k := k) (by omega)
      rw [eK _ (by omega) (by show 35 + 18 + 2 * (M.1 52 k).toNatClampNeg < 69; omega)]
      exact c7 k hk
  · unfold SH1
    rw [e (130 + 2 * q) (by omega) (by omega) (by omega) (by omega), e 150 (by decide) (by decide) (by decide) (by decide), e 151 (by decide) (by decide) (by decide) (by decide), e2]
    exact sh q hq
def Q7_restore (M : zM) (r : Int32) (M2 : zM) : Prop := ∃ nt np ah u len, SX M M nt np ah u len ∧ ∃ k, k ≤ 8 ∧ (¬ M.1 0 2 = 0 → M.1 35 3 = nI k) ∧ P7_restore M k r M2
theorem q7_restore {l : Launch} {w : zE} (J : zJ w) {M : zM} (S : Sim M) : zCi l w yX7_restore cX7_restore 1 (some .int) 3 [.ref (w.2.2 0)] M (Q7_restore M) := by
  obtain ⟨nt, np, ah, u, len, S⟩ := S
  by_cases hz : M.1 0 2 = 0
  · exact zCi_post (fun r M2 h => ⟨nt, np, ah, u, len, S, 0, by omega, fun z => absurd hz z, h⟩) (t7_restore J (k := 0) S.pm S.2.2.1.1 (fun z => absurd hz z) (by omega))
  · obtain ⟨a1, a2, a3, a4, K⟩ := S.2.2.1.2.2 hz
    exact zCi_post (fun r M2 h => ⟨nt, np, ah, u, len, S, a4, K.1.2.2.2, fun _ => K.2.1.2.2.2.2, h⟩) (t7_restore J (k := a4) S.pm S.2.2.1.1 (fun _ => K.2.1.2.2.2.2) K.1.2.2.2)
theorem q8_restore {l : Launch} {w : zE} (J : zJ w) {M M2 : zM} {r : Int32} (h : Q7_restore M r M2) : zCi l w yX8_restore cX8_restore 2 (some .int) 1 [.ref (w.2.2 138)] M2 (fun r' M3 => Sim M3 ∧ r' = r) := by
  obtain ⟨nt, np, ah, u, len, S, h⟩ := h
  obtain ⟨k, hk8, hk3, h⟩ := h
  rcases h with ⟨y, rfl, rfl⟩ | ⟨y, rfl, rfl⟩
  · refine zCi_post (fun r' M3 q => ?_) (t8_restore J)
    rcases q with ⟨_, rfl, rfl⟩ | ⟨z, _⟩
    · exact ⟨S.sim, rfl⟩
    · exact absurd (S.2.2.1.2.1.symm.trans y) z
  obtain ⟨nt', np', ah', u', K⟩ := S.2.2.1.2.2 y
  have hk : k = u' := (nI_eq (by omega) (by have := K.1.2.2.2; omega)).mp ((hk3 y).symm.trans K.2.1.2.2.2.2)
  subst hk
  obtain ⟨c1, c2, c3, c4, c5, c6, c7, c8, c9⟩ := set_w (M := M) (i := 1) (i2 := 35) (u := k) (Or.inl ⟨rfl, rfl⟩) S.pm S.2.2.1.1 hk8
  generalize cpP (wcF M 1 35) 1 35 k = N at c1 c2 c3 c4 c5 c6 c7 c8 c9
  refine zCi_post (fun r' M3 q => ?_) (t8_restore J)
  have eN : ∀ b, 138 ≤ b → N.1 b = M.1 b := fun b hb => c8 b (by omega)
  rcases q with ⟨z, _⟩ | ⟨_, rfl, rfl⟩
  · rw [eN 138 (by omega)] at z
    exact absurd (S.2.2.1.2.1.trans z) y
  refine ⟨?_, rfl⟩
  have e149 : N.1 149 = M.1 149 := eN 149 (by omega)
  have r1 : ∀ q, q < 40 → (rsF N 138).1 139 q = M.1 149 (5 + q) := fun q hq => by
    unfold rsF
    rw [za_off _ (show 139 ≠ 138 + 7 by decide), za_off _ (show 139 ≠ 138 + 3 by decide), za_off _ (show 139 ≠ 138 + 2 by decide), show (139 : Nat) = 138 + 1 from rfl, za_at, gvL_g, if_pos hq]
    exact congrFun e149 _
  have r2 : ∀ q, q < 16 → (rsF N 138).1 140 q = M.1 149 (45 + q) := fun q hq => by
    unfold rsF
    rw [za_off _ (show 140 ≠ 138 + 7 by decide), za_off _ (show 140 ≠ 138 + 3 by decide), show (140 : Nat) = 138 + 2 from rfl, za_at, gvL_g, if_pos hq]
    exact congrFun e149 _
  have r3 : ∀ q, q < 14 → (rsF N 138).1 141 q = M.1 149 (61 + q) := fun q hq => by
    unfold rsF
    rw [za_off _ (show 141 ≠ 138 + 7 by decide), show (141 : Nat) = 138 + 3 from rfl, za_at, gvL_g, if_pos hq]
    exact congrFun e149 _
  have r4 : ∀ q, q < 112 → (rsF N 138).1 145 q = M.1 149 (75 + q) := fun q hq => by
    unfold rsF
    rw [show (145 : Nat) = 138 + 7 from rfl, za_at, gvL_g, if_pos hq]
    exact congrFun e149 _
  have e : ∀ b, b ≠ 138 → b ≠ 139 → b ≠ 140 → b ≠ 141 → b ≠ 145 → (rsF N 138).1 b = N.1 b := fun b h1 h2 h3 h4 h5 => by
    unfold rsF
    rw [za_off _ h5, za_off _ h4, za_off _ h3, za_off _ h2, zs_off _ h1, zs_off _ h1, zs_off _ h1, zs_off _ h1, zs_off _ h1]
  have e8 : ∀ j, j ≠ 0 → j ≠ 1 → j ≠ 5 → j ≠ 6 → j ≠ 20 → (rsF N 138).1 138 j = M.1 138 j := fun j h1 h2 h3 h4 h5 => by
    unfold rsF
    rw [za_off _ (by decide), za_off _ (by decide), za_off _ (by decide), za_off _ (by decide), zs_g, if_neg (by omega), zs_g, if_neg (by omega), zs_g, if_neg (by omega), zs_g, if_neg (by omega), zs_g, if_neg (by omega)]
    exact congrFun (eN 138 (by omega)) j
  have f : (rsF N 138).1 138 0 = M.1 149 0 ∧ (rsF N 138).1 138 1 = M.1 149 1 ∧ (rsF N 138).1 138 5 = M.1 149 2 ∧ (rsF N 138).1 138 6 = M.1 149 3 ∧ (rsF N 138).1 138 20 = M.1 149 4 := by
    rw [← e149]
    unfold rsF
    rw [za_off _ (show 138 ≠ 138 + 7 by decide), za_off _ (show 138 ≠ 138 + 3 by decide), za_off _ (show 138 ≠ 138 + 2 by decide), za_off _ (show 138 ≠ 138 + 1 by decide)]
    refine ⟨?_, ?_, ?_, ?_, ?_⟩ <;> simp +decide only [zs_g, if_true, if_false]
  have e2 : (rsF N 138).2 = M.2 := c9
  generalize rsF N 138 = Z at r1 r2 r3 r4 e e8 f e2
  have eM : ∀ b, b ≠ 138 → b ≠ 139 → b ≠ 140 → b ≠ 141 → b ≠ 145 → (b < 1 ∨ 35 ≤ b) → Z.1 b = M.1 b := fun b h1 h2 h3 h4 h5 h6 => (e b h1 h2 h3 h4 h5).trans (c8 b (by omega))
  have W : WN Z Z nt' np' ah' k := by
    unfold WN
    rw [f.1, f.2.1, f.2.2.1, f.2.2.2.1, f.2.2.2.2]
    refine WR.ext (WR.mv K ?_ ?_ ?_ ?_ ?_ ?_ (fun j hj => ?_)) r1 r2 r3 r4
    · rw [e _ (by decide) (by decide) (by decide) (by decide) (by decide)]; exact c1
    · rw [e _ (by decide) (by decide) (by decide) (by decide) (by decide)]; exact c2
    · rw [e _ (by decide) (by decide) (by decide) (by decide) (by decide)]; exact c3
    · rw [e _ (by decide) (by decide) (by decide) (by decide) (by decide)]; exact c4
    · rw [e _ (by decide) (by decide) (by decide) (by decide) (by decide)]; exact c5
    · rw [e _ (by decide) (by decide) (by decide) (by decide) (by decide), c6]; exact S.pm
    · rw [e (1 + 17) (by decide) (by decide) (by decide) (by decide) (by decide), c6]
      have k8 := pm_n S.pm (k := j) (by omega)
      have k9 : (M.1 (1 + 17) j).toNatClampNeg < 8 := k8
      rw [e _ (by omega) (by omega) (by omega) (by omega) (by omega)]
      exact c7 j hj
  exact (S.world (M3 := Z) (fun b h1 h2 h3 => eM b (by omega) (by omega) (by omega) (by omega) (by omega) (by omega)) (fun b h1 => eM b (by omega) (by omega) (by omega) (by omega) (by omega) (by omega)) (fun j hj => e8 j (by omega) (by omega) (by omega) (by omega) (by omega)) ((e8 8 (by decide) (by decide) (by decide) (by decide) (by decide)).trans S.2.1) e2 W).sim
