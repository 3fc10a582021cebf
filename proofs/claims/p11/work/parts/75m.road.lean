/-! the reference's road -/
theorem nxP_id (L : zF1) : ∀ (j p q : Nat), nxP L j p = q → nxP L (p + j - q) q = q := by
  intro j
  induction j with
  | zero =>
    intro p q h
    have h : p = q := h
    subst h
    rw [show p + 0 - p = 0 by omega]
    rfl
  | succ j ih =>
    intro p q h
    by_cases z : L p = 32
    · rw [nxP, if_pos z] at h
      have := ih (p + 1) q h
      rw [show p + (j + 1) - q = p + 1 + j - q by omega]
      exact this
    · have h2 := h
      rw [nxP, if_neg z] at h2
      subst h2
      rw [show p + (j + 1) - p = j + 1 by omega]
      exact h
theorem nxP_i2 (L : zF1) {len p : Nat} (hp : p ≤ len) : nxP L (len - nxP L (len - p) p) (nxP L (len - p) p) = nxP L (len - p) p := by
  have := nxP_id L (len - p) p _ rfl
  rw [show p + (len - p) - nxP L (len - p) p = len - nxP L (len - p) p by omega] at this
  exact this
theorem RS.hs {M M' : zM} {p n m : Nat} {wr a : Int32} {th pe : zF1} (h : RS (zs M 138 15 a) M' p wr n m th pe) (v : Int32) : RS (zs M 138 15 v) (zs M' 138 15 v) p wr n m th pe := by
  obtain ⟨⟨g1, g2, g3⟩, h2, h3, h4, h5, h6, h7⟩ := h
  refine ⟨⟨g1, fun b a1 a2 a3 => ?_, fun k hk => ?_⟩, ?_, ?_, ?_, ?_, (zs_off _ (by decide)).trans h6, (zs_off _ (by decide)).trans h7⟩
  · rw [zs_off _ a1, zs_off _ a1]
    have := g2 b a1 a2 a3
    rw [zs_off _ a1] at this
    exact this
  · by_cases e : k = 15
    · subst e; simp +decide only [zs_g, if_true]
    · have := g3 k hk
      rw [zs_g, if_neg (by omega)] at this
      rw [zs_g, if_neg (by omega), zs_g, if_neg (by omega)]
      exact this
  all_goals simp +decide only [zs_g, if_false]
  all_goals assumption
/-- what stands behind a road that was read -/
def FT (M M' : zM) (th rp : zF1) (n m : Nat) (hv : Int32) (t k : Nat) : Prop := M'.2 = M.2 ∧ (∀ b, b ≠ 138 → b ≠ 139 → b ≠ 140 → b ≠ 141 → b ≠ 143 → b ≠ 144 → M'.1 b = M.1 b) ∧ (M'.1 143 = th ∧ M'.1 144 = rp) ∧ (M'.1 138 0 = nI t ∧ M'.1 138 1 = nI k ∧ M'.1 138 10 = 0 ∧ M'.1 138 13 = nI n ∧ M'.1 138 14 = nI m ∧ M'.1 138 15 = hv ∧ M'.1 138 20 = 0) ∧ (∀ j, (2 ≤ j ∧ j < 10 ∨ 15 < j ∧ j ≠ 20) → M'.1 138 j = M.1 138 j) ∧ (∀ q, M'.1 139 q = if q < 4 * t then th q else M.1 139 q) ∧ (∀ q, q < 2 * k → M'.1 140 q = peR rp q) ∧ (M'.1 141 0 = -4 ∧ (∀ q, 1 ≤ q → q < 5 → M'.1 141 q = 0) ∧ (∀ j, j < k → M'.1 141 (5 + j) = TR rp (5 + j)) ∧ (∀ j, k ≤ j → j < 9 → M'.1 141 (5 + j) = -4))
theorem FT.t {M M' : zM} {th rp : zF1} {n m t k : Nat} {hv : Int32} (h : FT M M' th rp n m hv t k) : FT M (zs (za M' (138 + 1) (setF (M'.1 (138 + 1)) t (th (4 * t)) (th (4 * t + 1)) (th (4 * t + 2)) (th (4 * t + 3)))) 138 0 (nI (t + 1))) th rp n m hv (t + 1) k := by
  obtain ⟨h1, h2, ⟨h3, h3'⟩, ⟨f0, f1, f2, f3, f4, f5, f6⟩, h5, h6, h7, h8⟩ := h
  have e : ∀ b, b ≠ 138 → b ≠ 139 → (zs (za M' (138 + 1) (setF (M'.1 (138 + 1)) t (th (4 * t)) (th (4 * t + 1)) (th (4 * t + 2)) (th (4 * t + 3)))) 138 0 (nI (t + 1))).1 b = M'.1 b := fun b a1 a2 => by rw [zs_off _ a1, za_off _ a2]
  have e8 : ∀ j, j ≠ 0 → (zs (za M' (138 + 1) (setF (M'.1 (138 + 1)) t (th (4 * t)) (th (4 * t + 1)) (th (4 * t + 2)) (th (4 * t + 3)))) 138 0 (nI (t + 1))).1 138 j = M'.1 138 j := fun j hj => by rw [zs_g, if_neg (by omega), za_off _ (by decide)]
  refine ⟨h1, fun b a1 a2 a3 a4 a5 a6 => (e b a1 a2).trans (h2 b a1 a2 a3 a4 a5 a6), ⟨(e 143 (by decide) (by decide)).trans h3, (e 144 (by decide) (by decide)).trans h3'⟩, ⟨by simp +decide only [zs_g, if_true], ?_, ?_, ?_, ?_, ?_, ?_⟩, fun j hj => (e8 j (by omega)).trans (h5 j hj), fun q => ?_, fun q hq => ?_, ?_⟩
  · exact (e8 1 (by decide)).trans f1
  · exact (e8 10 (by decide)).trans f2
  · exact (e8 13 (by decide)).trans f3
  · exact (e8 14 (by decide)).trans f4
  · exact (e8 15 (by decide)).trans f5
  · exact (e8 20 (by decide)).trans f6
  · have e139 : (zs (za M' (138 + 1) (setF (M'.1 (138 + 1)) t (th (4 * t)) (th (4 * t + 1)) (th (4 * t + 2)) (th (4 * t + 3)))) 138 0 (nI (t + 1))).1 139 = setF (M'.1 139) t (th (4 * t)) (th (4 * t + 1)) (th (4 * t + 2)) (th (4 * t + 3)) := (zs_off _ (show 139 ≠ 138 by decide)).trans (za_at _ _ _)
    rw [e139, setF]
    simp only [va_g, h6]
    repeat' split
    all_goals first | rfl | omega | (subst_vars; rfl) | (congr 1; omega)
  · rw [e 140 (by decide) (by decide)]; exact h7 q hq
  · rw [e 141 (by decide) (by decide)]; exact h8
theorem FT.p {M M' : zM} {th rp : zF1} {n m t k : Nat} {hv : Int32} (h : FT M M' th rp n m hv t k) (hk : k < 8) : FT M (zs (zs (zs (zs M' (138 + 2) (2 * k) (rp (3 * k))) (138 + 2) (2 * k + 1) (rp (3 * k + 2))) (138 + 3) (5 + k) (rp (3 * k + 1))) 138 1 (nI (k + 1))) th rp n m hv t (k + 1) := by
  obtain ⟨h1, h2, ⟨h3, h3'⟩, ⟨f0, f1, f2, f3, f4, f5, f6⟩, h5, h6, h7, ⟨h8, h9, h10, h11⟩⟩ := h
  have e : ∀ b j, b ≠ 138 → b ≠ 140 → b ≠ 141 → (zs (zs (zs (zs M' (138 + 2) (2 * k) (rp (3 * k))) (138 + 2) (2 * k + 1) (rp (3 * k + 2))) (138 + 3) (5 + k) (rp (3 * k + 1))) 138 1 (nI (k + 1))).1 b j = M'.1 b j := fun b j a1 a2 a3 => by rw [zs_g, if_neg (by omega), zs_g, if_neg (by omega), zs_g, if_neg (by omega), zs_g, if_neg (by omega)]
  have e8 : ∀ j, j ≠ 1 → (zs (zs (zs (zs M' (138 + 2) (2 * k) (rp (3 * k))) (138 + 2) (2 * k + 1) (rp (3 * k + 2))) (138 + 3) (5 + k) (rp (3 * k + 1))) 138 1 (nI (k + 1))).1 138 j = M'.1 138 j := fun j hj => by rw [zs_g, if_neg (by omega), zs_g, if_neg (by omega), zs_g, if_neg (by omega), zs_g, if_neg (by omega)]
  have eT : ∀ j, (zs (zs (zs (zs M' (138 + 2) (2 * k) (rp (3 * k))) (138 + 2) (2 * k + 1) (rp (3 * k + 2))) (138 + 3) (5 + k) (rp (3 * k + 1))) 138 1 (nI (k + 1))).1 141 j = if j = 5 + k then rp (3 * k + 1) else M'.1 141 j := fun j => by
    rw [zs_g, if_neg (by omega), zs_g]
    by_cases z : j = 5 + k
    · rw [if_pos ⟨rfl, z⟩, if_pos z]
    · rw [if_neg (fun y => z y.2), if_neg z, zs_g, if_neg (by omega), zs_g, if_neg (by omega)]
  refine ⟨h1, fun b a1 a2 a3 a4 a5 a6 => (funext fun j => e b j a1 a3 a4).trans (h2 b a1 a2 a3 a4 a5 a6), ⟨(funext fun j => e 143 j (by decide) (by decide) (by decide)).trans h3, (funext fun j => e 144 j (by decide) (by decide) (by decide)).trans h3'⟩, ⟨(e8 0 (by decide)).trans f0, by simp +decide only [zs_g, if_true], (e8 10 (by decide)).trans f2, (e8 13 (by decide)).trans f3, (e8 14 (by decide)).trans f4, (e8 15 (by decide)).trans f5, (e8 20 (by decide)).trans f6⟩, fun j hj => (e8 j (by omega)).trans (h5 j hj), fun q => (e 139 q (by decide) (by decide) (by decide)).trans (h6 q), fun q hq => ?_, (eT 0).trans ((if_neg (by omega)).trans h8), fun q a1 a2 => (eT q).trans ((if_neg (by omega)).trans (h9 q a1 a2)), fun j hj => ?_, fun j a1 a2 => (eT _).trans ((if_neg (by omega)).trans (h11 j (by omega) a2))⟩
  · rw [zs_g, if_neg (by omega), zs_g, if_neg (by omega), zs_g]
    by_cases z : q = 2 * k + 1
    · rw [if_pos ⟨rfl, z⟩]
      unfold peR
      rw [if_neg (by omega), show q / 2 = k by omega]
    · rw [if_neg (fun y => z y.2), zs_g]
      by_cases z2 : q = 2 * k
      · rw [if_pos ⟨rfl, z2⟩]
        unfold peR
        rw [if_pos (by omega), show q / 2 = k by omega]
      · rw [if_neg (fun y => z2 y.2)]
        exact h7 q (by omega)
  · rw [eT]
    by_cases z : j = k
    · subst z; rw [if_pos rfl, TR_5]
    · rw [if_neg (by omega)]; exact h10 j (by omega)
/-- the reference's state behind a road that was read, by what was read -/
def RD (M M' : zM) (S : zRd) : Prop := M'.2 = M.2 ∧ (∀ b, b ≠ 138 → b ≠ 139 → b ≠ 140 → b ≠ 141 → b ≠ 143 → b ≠ 144 → M'.1 b = M.1 b) ∧ (M'.1 138 0 = nI S.1 ∧ M'.1 138 1 = nI S.2.2.1 ∧ M'.1 138 10 = 0 ∧ M'.1 138 20 = 0) ∧ (∀ j, (2 ≤ j ∧ j < 10 ∨ 15 < j ∧ j ≠ 20) → M'.1 138 j = M.1 138 j) ∧ (∀ q, M'.1 139 q = if q < 4 * S.1 then S.2.1 q else M.1 139 q) ∧ (∀ q, q < 2 * S.2.2.1 → M'.1 140 q = S.2.2.2.1 q) ∧ (M'.1 141 0 = S.2.2.2.2 0 ∧ (∀ q, 1 ≤ q → q < 5 → M'.1 141 q = 0) ∧ (∀ j, j < S.2.2.1 → M'.1 141 (5 + j) = S.2.2.2.2 (5 + j)) ∧ (∀ j, S.2.2.1 ≤ j → j < 9 → M'.1 141 (5 + j) = -4))
theorem FT.end {M M' : zM} {th rp : zF1} {n m : Nat} {hv : Int32} (h : FT M M' th rp n m hv n m) : RD M (zs M' (138 + 3) 0 hv) (n, th, m, peR rp, va_up (TR rp) 0 hv) := by
  obtain ⟨h1, h2, ⟨h3, h3'⟩, ⟨f0, f1, f2, f3, f4, f5, f6⟩, h5, h6, h7, ⟨h8, h9, h10, h11⟩⟩ := h
  have e : ∀ b j, (b ≠ 141 ∨ j ≠ 0) → (zs M' (138 + 3) 0 hv).1 b j = M'.1 b j := fun b j a => by rw [zs_g, if_neg (by omega)]
  refine ⟨h1, fun b a1 a2 a3 a4 a5 a6 => (funext fun j => e b j (Or.inl a4)).trans (h2 b a1 a2 a3 a4 a5 a6), ⟨(e 138 _ (by decide)).trans f0, (e 138 _ (by decide)).trans f1, (e 138 _ (by decide)).trans f2, (e 138 _ (by decide)).trans f6⟩, fun j hj => (e 138 _ (Or.inl (by decide))).trans (h5 j hj), fun q => (e 139 _ (Or.inl (by decide))).trans (h6 q), fun q hq => (e 140 _ (Or.inl (by decide))).trans (h7 q hq), ?_, fun q a1 a2 => (e 141 q (Or.inr (by omega))).trans (h9 q a1 a2), fun j hj => (e 141 _ (Or.inr (by omega))).trans ((h10 j hj).trans (va_up_ne _ _ (by omega)).symm), fun j a1 a2 => (e 141 _ (Or.inr (by omega))).trans (h11 j a1 a2)⟩
  show (zs M' (138 + 3) 0 hv).1 (138 + 3) 0 = va_up (TR rp) 0 hv 0
  rw [zs_at, va_up_self, va_up_self]
def RF (M M' : zM) : Prop := M'.2 = M.2 ∧ (∀ b, b ≠ 138 → b ≠ 143 → b ≠ 144 → M'.1 b = M.1 b) ∧ (∀ k, (k < 10 ∨ 15 < k) → M'.1 138 k = M.1 138 k) ∧ M'.1 138 10 = 0
