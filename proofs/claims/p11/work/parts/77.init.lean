/-! two new objects say the same -/
theorem i_f : M1.1 2 0 = nI 0 ∧ M1.1 2 1 = nI 0 ∧ M1.1 2 2 = M1.1 138 5 ∧ M1.1 2 3 = M1.1 138 6 ∧ M1.1 1 3 = nI 0 ∧ M1.1 138 0 = nI 0 ∧ M1.1 138 1 = nI 0 ∧ M1.1 138 20 = nI 0 := by decide +kernel
theorem i_t : M1.1 16 0 = M1.1 141 0 ∧ M1.1 16 1 = M1.1 141 1 ∧ M1.1 16 2 = M1.1 141 2 ∧ M1.1 16 3 = M1.1 141 3 ∧ M1.1 16 4 = M1.1 141 4 + 0 := by decide +kernel
theorem i_T : M1.1 141 0 = -4 ∧ (∀ p, p < 9 → M1.1 141 (5 + p) = -4) ∧ M1.1 141 2 = 0 ∧ M1.1 141 1 = 0 ∧ M1.1 141 3 = nI 0 := by decide +kernel
theorem i_p : (∀ k, k < 8 → M1.1 18 k = nI k) ∧ (∀ k, k < 8 → M1.1 52 k = nI k) := by decide +kernel
theorem i_k : ∀ j, j < 10 → M1.1 139 (4 * j) = 0 := by decide +kernel
theorem i_m : M1.1 138 8 = 0 ∧ M1.1 0 2 = M1.1 138 25 ∧ M1.1 0 2 = 0 ∧ M1.1 69 1 = nI 0 ∧ M1.1 138 10 = nI 0 := by decide +kernel
theorem i_s : ∀ q, q < 4 → M1.1 (130 + 2 * q) 0 = 0 ∧ M1.1 150 q = -1 ∧ M1.1 (130 + 2 * q) 2 = nI 0 ∧ M1.1 151 q = nI 0 := by decide +kernel
theorem i_l : M1.1 70 = M1.1 142 := by
  unfold M1
  rw [zs_off _ (by decide), za_off _ (by decide), zs_off _ (by decide), zs_off _ (by decide), zs_off _ (by decide), zs_off _ (by decide), zs_off _ (by decide), zs_off _ (by decide)]
  rw [zs_off _ (by decide), za_off _ (by decide), zs_off _ (by decide), zs_off _ (by decide), zs_off _ (by decide), zs_off _ (by decide), zs_off _ (by decide), zs_off _ (by decide)]
  rfl
theorem pm_id {f : zF1} (h : ∀ k, k < 8 → f k = nI k) : pmF f := ⟨fun k hk => ⟨k, hk, h k hk⟩, fun a b ha hb e => by
  rw [h a ha, h b hb] at e
  exact (nI_eq (by omega) (by omega)).mp e⟩
theorem sim_0 : Sim M1 := by
  obtain ⟨f1, f2, f3, f4, f5, f6, f7, f8⟩ := i_f
  obtain ⟨t0, t1, t2, t3, t4⟩ := i_t
  obtain ⟨u0, u5, u2, u1, u3⟩ := i_T
  obtain ⟨m8, m25, m0, m69, m10⟩ := i_m
  refine ⟨0, 0, 0, 0, 0, WN.mk ⟨by omega, by omega, by omega, by omega⟩ ⟨f1, f2, f3, f4, f5⟩ ⟨f6, f7, f8⟩ ⟨fun q hq => absurd hq (by omega), fun q hq => absurd hq (by omega)⟩ ⟨0, t0, t1, t2, t3, t4, fun p hp => absurd hp (by omega)⟩ ⟨fun j hj => absurd hj (by omega), fun j hj => absurd hj (by omega), pm_id i_p.1⟩ ⟨fun j hj => Or.inl (i_k j hj), fun j hj => absurd hj (by omega), fun p hp => absurd hp (by omega)⟩ ⟨⟨⟨Or.inl u0, fun p hp => Or.inl (u5 p hp), Or.inl u2⟩, ⟨fun p hp => absurd hp (by omega), fun p q hp => absurd hp (by omega)⟩, fun _ => u1, 0, by omega, u3⟩, u3⟩, m8, ⟨pm_id i_p.2, m25, fun z => absurd m0 z⟩, ⟨m69, m10, by omega, i_l, fun q hq => absurd hq (by omega)⟩, fun q hq => ?_⟩
  obtain ⟨s1, s2, s3, s4⟩ := i_s q hq
  exact ⟨Or.inl ⟨s1, s2⟩, ⟨0, by omega, s3, s4⟩, fun i hi => rfl⟩
