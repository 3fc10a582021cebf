/-! a road that is read doesn't hang on what was there before -/
theorem num_v {L : zF1} {len p h : Nat} (hh : h ≤ 99) (z : ¬ (numF L len p (nI h)).1 < 0) : ∃ v, v ≤ h ∧ (numF L len p (nI h)).1 = nI v := by
  unfold numF at z ⊢
  by_cases hd : dgF (chF L len (nxP L (len - p) p))
  · rw [if_pos hd] at z ⊢
    obtain ⟨a', b', q, n1, n2, n3, n4⟩ := nm_rel (L := L) hh (len - nxP L (len - p) p) (nxP L (len - p) p) 0 0 ⟨by decide, Or.inl ⟨rfl, by omega⟩⟩
    rw [show nI 0 = (0 : Int32) from rfl] at n2
    rw [n2] at z ⊢
    by_cases y : nI h < nI b'
    · rw [if_pos y] at z
      exact absurd (by decide : (-1 : Int32) < 0) z
    · rw [if_neg y]
      have : ¬ h < b' := fun c => y (nI_lt c (by omega))
      exact ⟨b', by omega, rfl⟩
  · rw [if_neg hd] at z
    exact absurd (by decide : (-1 : Int32) < 0) z
theorem opt_v {L : zF1} {len p h : Nat} {c : Int32} (hh : h ≤ 99) (z : ¬ (optF L len p c (nI h)).1 < 0) : ∃ v, v ≤ h ∧ (optF L len p c (nI h)).1 = nI v := by
  unfold optF at z ⊢
  by_cases y : rdB L len p c
  · rw [if_pos y] at z ⊢; exact num_v hh z
  · rw [if_neg y] at z ⊢; exact ⟨0, by omega, rfl⟩
theorem free_v {L : zF1} {len p nt m : Nat} {T : zF1} (h10 : nt ≤ 10) (z : ¬ (freeF L len p (nI nt) T m).1 < 0) : (∃ j, j < nt ∧ (freeF L len p (nI nt) T m).1 = nI j) ∧ whoF T m (freeF L len p (nI nt) T m).1 = -4 := by
  unfold freeF at z ⊢
  by_cases y : (0 ≤ chF L len (nxP L (len - p) p) - 48 ∧ chF L len (nxP L (len - p) p) - 48 < nI nt) ∧ whoF T m (chF L len (nxP L (len - p) p) - 48) = -4
  · rw [if_pos y]
    exact ⟨n_in y.1 (by omega), y.2⟩
  · rw [if_neg y] at z
    exact absurd (by decide : (-1 : Int32) < 0) z
theorem free_cg {L : zF1} {len p m : Nat} {nt : Int32} {T T' : zF1} (h : ∀ x, whoF T m x = -4 ↔ whoF T' m x = -4) : freeF L len p nt T m = freeF L len p nt T' m := by
  unfold freeF
  by_cases y : (0 ≤ chF L len (nxP L (len - p) p) - 48 ∧ chF L len (nxP L (len - p) p) - 48 < nt) ∧ whoF T m (chF L len (nxP L (len - p) p) - 48) = -4
  · rw [if_pos y, if_pos ⟨y.1, (h _).mp y.2⟩]
  · rw [if_neg y, if_neg (fun c => y ⟨c.1, (h _).mpr c.2⟩)]
theorem per_cg {L : zF1} {len p m : Nat} {nt : Int32} {T T' : zF1} (h : ∀ x, whoF T m x = -4 ↔ whoF T' m x = -4) : perF L len p nt T m = perF L len p nt T' m := by
  unfold perF
  rw [free_cg h]
theorem his_cg {L : zF1} {len p m : Nat} {nt : Int32} {T T' : zF1} (h : ∀ x, whoF T m x = -4 ↔ whoF T' m x = -4) : hisF L len p nt T m = hisF L len p nt T' m := by
  unfold hisF
  rw [free_cg h]
theorem per_v {L : zF1} {len p nt m : Nat} {T : zF1} (h10 : nt ≤ 10) (z : ¬ (perF L len p (nI nt) T m).1 = 0) : (∃ v, v ≤ 20 ∧ (perF L len p (nI nt) T m).2.2.2.1 = nI v) ∧ ((perF L len p (nI nt) T m).2.2.2.2 = -4 ∨ (∃ j, j < nt ∧ (perF L len p (nI nt) T m).2.2.2.2 = nI j) ∧ whoF T m (perF L len p (nI nt) T m).2.2.2.2 = -4) := by
  unfold perF at z ⊢
  by_cases y1 : (numF L len p 11).1 < 0
  · rw [if_pos y1] at z; exact absurd rfl z
  rw [if_neg y1] at z ⊢
  by_cases y2 : rdB L len (numF L len p 11).2 61 ∧ (freeF L len (rdP L len (numF L len p 11).2 61) (nI nt) T m).1 < 0
  · rw [if_pos y2] at z; exact absurd rfl z
  rw [if_neg y2] at z ⊢
  rw [perG_opt] at z ⊢
  by_cases y3 : (optF L len (if rdB L len (numF L len p 11).2 61 then freeF L len (rdP L len (numF L len p 11).2 61) (nI nt) T m else (-4, rdP L len (numF L len p 11).2 61)).2 43 20).1 < 0
  · rw [if_pos y3] at z; exact absurd rfl z
  rw [if_neg y3]
  refine ⟨opt_v (h := 20) (by omega) y3, ?_⟩
  show (if rdB L len (numF L len p 11).2 61 then freeF L len (rdP L len (numF L len p 11).2 61) (nI nt) T m else (-4, rdP L len (numF L len p 11).2 61)).1 = -4 ∨ (∃ j, j < nt ∧ (if rdB L len (numF L len p 11).2 61 then freeF L len (rdP L len (numF L len p 11).2 61) (nI nt) T m else (-4, rdP L len (numF L len p 11).2 61)).1 = nI j) ∧ whoF T m (if rdB L len (numF L len p 11).2 61 then freeF L len (rdP L len (numF L len p 11).2 61) (nI nt) T m else (-4, rdP L len (numF L len p 11).2 61)).1 = -4
  by_cases y4 : rdB L len (numF L len p 11).2 61
  · rw [if_pos y4]
    exact Or.inr (free_v h10 (fun c => y2 ⟨y4, c⟩))
  · rw [if_neg y4]
    exact Or.inl rfl
def thV (n : Nat) (th : zF1) : Prop := ∀ j, j < n → (th (4 * j) = 0 ∨ th (4 * j) = 1 ∨ th (4 * j) = 2 ∨ th (4 * j) = 3) ∧ ∃ v, v ≤ 99 ∧ th (4 * j + 1) = nI v
theorem thi_v {L : zF1} {len p : Nat} (z : ¬ (thiF L len p).1 = 0) : ((thiF L len p).2.2.1 = 0 ∨ (thiF L len p).2.2.1 = 1 ∨ (thiF L len p).2.2.1 = 2 ∨ (thiF L len p).2.2.1 = 3) ∧ ∃ v, v ≤ 99 ∧ (thiF L len p).2.2.2.1 = nI v := by
  unfold thiF at z ⊢
  by_cases y0 : kndF (chF L len (nxP L (len - p) p)) < 0
  · rw [if_pos y0] at z; exact absurd rfl z
  rw [if_neg y0] at z ⊢
  by_cases y1 : (numF L len (nxP L (len - p) p + 1) 99).1 < 0
  · rw [if_pos y1] at z; exact absurd rfl z
  rw [if_neg y1] at z ⊢
  by_cases y2 : (optF L len (numF L len (nxP L (len - p) p + 1) 99).2 108 30).1 < 0
  · rw [if_pos y2] at z; exact absurd rfl z
  rw [if_neg y2] at z ⊢
  by_cases y3 : (optF L len (optF L len (numF L len (nxP L (len - p) p + 1) 99).2 108 30).2 99 30).1 < 0
  · rw [if_pos y3] at z; exact absurd rfl z
  rw [if_neg y3]
  refine ⟨?_, num_v (h := 99) (by omega) y1⟩
  show kndF _ = 0 ∨ kndF _ = 1 ∨ kndF _ = 2 ∨ kndF _ = 3
  unfold kndF at y0 ⊢
  split
  · exact Or.inl rfl
  · split
    · exact Or.inr (Or.inl rfl)
    · split
      · exact Or.inr (Or.inr (Or.inl rfl))
      · split
        · exact Or.inr (Or.inr (Or.inr rfl))
        · next a b c d => rw [if_neg a, if_neg b, if_neg c, if_neg d] at y0; exact absurd (by decide) y0
theorem thV_set {n : Nat} {th : zF1} {a b c d : Int32} (h : thV n th) (g : a = 0 ∨ a = 1 ∨ a = 2 ∨ a = 3) (k : ∃ v, v ≤ 99 ∧ b = nI v) : thV (n + 1) (setF th n a b c d) := fun j hj => by
  by_cases z : j = n
  · subst z
    rw [(setF_at th j a b c d).1, (setF_at th j a b c d).2]
    exact ⟨g, k⟩
  · rw [setF_off th n a b c d (by omega), setF_off th n a b c d (by omega)]
    exact h j (by omega)
theorem thiL_cg {L : zF1} {len : Nat} : ∀ (j p n : Nat) (th th' : zF1), thE n th th' → thV n th' → (thiL L len j (p, n, th)).1 = (thiL L len j (p, n, th')).1 ∧ (thiL L len j (p, n, th)).2.1 = (thiL L len j (p, n, th')).2.1 ∧ (thiL L len j (p, n, th)).2.2.1 = (thiL L len j (p, n, th')).2.2.1 ∧ thE (thiL L len j (p, n, th')).2.2.1 (thiL L len j (p, n, th)).2.2.2 (thiL L len j (p, n, th')).2.2.2 ∧ thV (thiL L len j (p, n, th')).2.2.1 (thiL L len j (p, n, th')).2.2.2 := by
  intro j
  induction j with
  | zero => intro p n th th' e v; exact ⟨rfl, rfl, rfl, e, v⟩
  | succ j ih =>
    intro p n th th' e v
    rw [thiL, thiL]
    dsimp only
    by_cases z : (thiF L len p).1 = 0
    · rw [if_pos z, if_pos z]; exact ⟨rfl, rfl, rfl, e, v⟩
    rw [if_neg z, if_neg z]
    obtain ⟨v1, v2⟩ := thi_v z
    have e2 := setF_cg e (thiF L len p).2.2.1 (thiF L len p).2.2.2.1 (thiF L len p).2.2.2.2.1 (thiF L len p).2.2.2.2.2
    have w2 := thV_set (c := (thiF L len p).2.2.2.2.1) (d := (thiF L len p).2.2.2.2.2) v v1 v2
    by_cases y : j = 0
    · rw [if_pos y, if_pos y]; exact ⟨rfl, rfl, rfl, e2, w2⟩
    rw [if_neg y, if_neg y]
    by_cases x : rdB L len (thiF L len p).2.1 44
    · rw [if_pos x, if_pos x]; exact ih _ _ _ _ e2 w2
    · rw [if_neg x, if_neg x]; exact ⟨rfl, rfl, rfl, e2, w2⟩
/-- people so far, alike -/
def pR (nt m : Nat) (Tb pe T pe' T' : zF1) : Prop := peE m pe pe' ∧ (T 0 = -4 ∧ T' 0 = -4) ∧ (∀ p, p < m → T (5 + p) = T' (5 + p)) ∧ (∀ k, 1 ≤ k → k < 5 → T k = Tb k) ∧ mOK m pe' ∧ (∀ p, p < m → vx nt (T' (5 + p))) ∧ (∀ p q, p < m → q < m → T' (5 + p) = T' (5 + q) → ¬ T' (5 + p) = -4 → p = q)
theorem pR.who {nt m : Nat} {Tb pe T pe' T' : zF1} (h : pR nt m Tb pe T pe' T') (h8 : m ≤ 8) (x : Int32) : whoF T m x = -4 ↔ whoF T' m x = -4 := by
  obtain ⟨_, ⟨a, b⟩, c, _⟩ := h
  rw [whoF_none h8, whoF_none h8, a, b]
  constructor
  · rintro ⟨z1, z2⟩; exact ⟨z1, fun p hp y => z2 p hp ((c p hp).trans y)⟩
  · rintro ⟨z1, z2⟩; exact ⟨z1, fun p hp y => z2 p hp ((c p hp).symm.trans y)⟩
theorem pR.new {nt m : Nat} {Tb pe T pe' T' : zF1} {ms mg x : Int32} (h : pR nt m Tb pe T pe' T') (h8 : m ≤ 8) (hg : ∃ v, v ≤ 20 ∧ mg = nI v) (hx : x = -4 ∨ (∃ j, j < nt ∧ x = nI j) ∧ whoF T' m x = -4) : pR nt (m + 1) Tb (va_up (va_up pe (2 * m) ms) (2 * m + 1) mg) (va_up T (5 + m) x) (va_up (va_up pe' (2 * m) ms) (2 * m + 1) mg) (va_up T' (5 + m) x) := by
  obtain ⟨a1, ⟨a2, a3⟩, a4, a5, a6, a7, a8⟩ := h
  refine ⟨peE_new a1, ⟨by rw [va_up_ne _ _ (by omega)]; exact a2, by rw [va_up_ne _ _ (by omega)]; exact a3⟩, fun p hp => ?_, fun k k1 k2 => by rw [va_up_ne _ _ (by omega)]; exact a5 k k1 k2, fun p hp => ?_, fun p hp => ?_, fun p q hp hq z y => ?_⟩
  · by_cases z : p = m
    · subst z; rw [va_up_self, va_up_self]
    · rw [va_up_ne _ _ (by omega), va_up_ne _ _ (by omega)]; exact a4 p (by omega)
  · by_cases z : p = m
    · subst z; rw [va_up_self]; exact hg
    · rw [va_up_ne _ _ (by omega), va_up_ne _ _ (by omega)]; exact a6 p (by omega)
  · by_cases z : p = m
    · subst z
      rw [va_up_self]
      rcases hx with hx | ⟨⟨j, hj, hx⟩, _⟩
      · exact Or.inl hx
      · exact Or.inr ⟨j, hj, hx⟩
    · rw [va_up_ne _ _ (by omega)]; exact a7 p (by omega)
  · by_cases e : p = m
    · by_cases e2 : q = m
      · omega
      · subst e
        rw [va_up_self, va_up_ne _ _ (by omega)] at z
        rw [va_up_self] at y
        exact absurd z.symm (((whoF_none h8).mp (hx.resolve_left y).2).2 q (by omega))
    · by_cases e2 : q = m
      · subst e2
        rw [va_up_self, va_up_ne _ _ (by omega)] at z
        rw [va_up_ne _ _ (by omega)] at y
        rcases hx with hx | hx
        · exact absurd (z.trans hx) y
        · exact absurd z (((whoF_none h8).mp hx.2).2 p (by omega))
      · rw [va_up_ne _ _ (by omega), va_up_ne _ _ (by omega)] at z
        rw [va_up_ne _ _ (by omega)] at y
        exact a8 p q (by omega) (by omega) z y
theorem peoL_cg {L : zF1} {len nt : Nat} {Tb : zF1} (h10 : nt ≤ 10) : ∀ (j p m : Nat) (pe T pe' T' : zF1), m + j ≤ 8 → pR nt m Tb pe T pe' T' → (peoL L len (nI nt) j (p, m, pe, T)).1 = (peoL L len (nI nt) j (p, m, pe', T')).1 ∧ (peoL L len (nI nt) j (p, m, pe, T)).2.1 = (peoL L len (nI nt) j (p, m, pe', T')).2.1 ∧ (peoL L len (nI nt) j (p, m, pe, T)).2.2.1 = (peoL L len (nI nt) j (p, m, pe', T')).2.2.1 ∧ (peoL L len (nI nt) j (p, m, pe', T')).2.2.1 ≤ 8 ∧ pR nt (peoL L len (nI nt) j (p, m, pe', T')).2.2.1 Tb (peoL L len (nI nt) j (p, m, pe, T)).2.2.2.1 (peoL L len (nI nt) j (p, m, pe, T)).2.2.2.2 (peoL L len (nI nt) j (p, m, pe', T')).2.2.2.1 (peoL L len (nI nt) j (p, m, pe', T')).2.2.2.2 := by
  intro j
  induction j with
  | zero => intro p m pe T pe' T' hm h; exact ⟨rfl, rfl, rfl, by show m ≤ 8; omega, h⟩
  | succ j ih =>
    intro p m pe T pe' T' hm h
    have ec : perF L len p (nI nt) T m = perF L len p (nI nt) T' m := per_cg (h.who (by omega))
    rw [peoL, peoL]
    dsimp only
    rw [ec]
    by_cases z : (perF L len p (nI nt) T' m).1 = 0
    · rw [if_pos z, if_pos z]; exact ⟨rfl, rfl, rfl, by show m ≤ 8; omega, h⟩
    rw [if_neg z, if_neg z]
    obtain ⟨v1, v2⟩ := per_v h10 z
    have hn := h.new (ms := (perF L len p (nI nt) T' m).2.2.1) (by omega) v1 v2
    by_cases y : j = 0
    · rw [if_pos y, if_pos y]; exact ⟨rfl, rfl, rfl, by show m + 1 ≤ 8; omega, hn⟩
    rw [if_neg y, if_neg y]
    by_cases x : rdB L len (perF L len p (nI nt) T' m).2.1 44
    · rw [if_pos x, if_pos x]; exact ih _ _ _ _ _ _ (by omega) hn
    · rw [if_neg x, if_neg x]; exact ⟨rfl, rfl, rfl, by show m + 1 ≤ 8; omega, hn⟩
def rdR (Tb : zF1) (S S' : zRd) : Prop := (S.1 = S'.1 ∧ S.2.2.1 = S'.2.2.1 ∧ S'.1 ≤ 10 ∧ S'.2.2.1 ≤ 8) ∧ (thE S'.1 S.2.1 S'.2.1 ∧ peE S'.2.2.1 S.2.2.2.1 S'.2.2.2.1) ∧ (S.2.2.2.2 0 = S'.2.2.2.2 0 ∧ (∀ p, p < S'.2.2.1 → S.2.2.2.2 (5 + p) = S'.2.2.2.2 (5 + p)) ∧ ∀ k, 1 ≤ k → k < 5 → S.2.2.2.2 k = Tb k) ∧ (thV S'.1 S'.2.1 ∧ mOK S'.2.2.1 S'.2.2.2.1 ∧ vx S'.1 (S'.2.2.2.2 0) ∧ (∀ p, p < S'.2.2.1 → vx S'.1 (S'.2.2.2.2 (5 + p)))) ∧ uq S'.2.2.1 S'.2.2.2.2
def roR (Tb : zF1) (R R' : Int32 × Nat × zRd) : Prop := R.1 = R'.1 ∧ R.2.1 = R'.2.1 ∧ (¬ R'.1 = 0 → rdR Tb R.2.2 R'.2.2)
theorem end_rd {L : zF1} {len p nt m : Nat} {Tb th th' pe T pe' T' : zF1} (h10 : nt ≤ 10) (h8 : m ≤ 8) (e : thE nt th th') (v : thV nt th') (h : pR nt m Tb pe T pe' T') : roR Tb (endF L len p (nt, th, m, pe, T)) (endF L len p (nt, th', m, pe', T')) := by
  obtain ⟨a1, ⟨a2, a3⟩, a4, a5, a6, a7, a8⟩ := h
  refine ⟨rfl, rfl, fun _ => ⟨⟨rfl, rfl, h10, h8⟩, ⟨e, a1⟩, ⟨a2.trans a3.symm, a4, a5⟩, ⟨v, a6, Or.inl a3, a7⟩, ⟨fun p hp _ => a3, a8⟩⟩⟩
theorem his_rd {L : zF1} {len p nt m : Nat} {Tb th th' pe T pe' T' : zF1} (h10 : nt ≤ 10) (h8 : m ≤ 8) (e : thE nt th th') (v : thV nt th') (h : pR nt m Tb pe T pe' T') : roR Tb (hisE L len p (nt, th, m, pe, T)) (hisE L len p (nt, th', m, pe', T')) := by
  have ec : hisF L len p (nI nt) T m = hisF L len p (nI nt) T' m := his_cg (h.who h8)
  unfold hisE
  dsimp only
  rw [ec]
  by_cases z : (hisF L len p (nI nt) T' m).1 = 0
  · rw [if_pos z, if_pos z]
    exact ⟨rfl, rfl, fun c => absurd rfl c⟩
  rw [if_neg z, if_neg z]
  have hv : (∃ j, j < nt ∧ (hisF L len p (nI nt) T' m).2.2 = nI j) ∧ whoF T' m (hisF L len p (nI nt) T' m).2.2 = -4 := by
    unfold hisF at z ⊢
    by_cases y : rdB L len p 61
    · rw [if_pos y] at z ⊢
      by_cases x : (freeF L len (rdP L len p 61) (nI nt) T' m).1 < 0
      · rw [if_pos x] at z; exact absurd rfl z
      · rw [if_neg x]; exact free_v h10 x
    · rw [if_neg y] at z; exact absurd rfl z
  generalize (hisF L len p (nI nt) T' m).2.2 = x at hv
  obtain ⟨⟨j, hj, hx⟩, hw⟩ := hv
  have hw2 := (whoF_none h8).mp hw
  obtain ⟨a1, ⟨a2, a3⟩, a4, a5, a6, a7, a8⟩ := h
  refine ⟨rfl, rfl, fun _ => ⟨⟨rfl, rfl, h10, h8⟩, ⟨e, a1⟩, ⟨?_, fun q hq => ?_, fun k k1 k2 => ?_⟩, ⟨v, a6, ?_, fun q hq => ?_⟩, ⟨fun q hq y => ?_, fun q q2 hq hq2 y c => ?_⟩⟩⟩
  · show va_up T 0 x 0 = va_up T' 0 x 0
    rw [va_up_self, va_up_self]
  · show va_up T 0 x (5 + q) = va_up T' 0 x (5 + q)
    rw [va_up_ne _ _ (by omega), va_up_ne _ _ (by omega)]; exact a4 q hq
  · show va_up T 0 x k = Tb k
    rw [va_up_ne _ _ (by omega)]; exact a5 k k1 k2
  · show vx nt (va_up T' 0 x 0)
    rw [va_up_self]; exact Or.inr ⟨j, hj, hx⟩
  · show vx nt (va_up T' 0 x (5 + q))
    rw [va_up_ne _ _ (by omega)]; exact a7 q hq
  · have y : va_up T' 0 x (5 + q) = va_up T' 0 x 0 := y
    rw [va_up_ne _ _ (by omega), va_up_self] at y
    exact absurd y (hw2.2 q hq)
  · have y : va_up T' 0 x (5 + q) = va_up T' 0 x (5 + q2) := y
    have c : ¬ va_up T' 0 x (5 + q) = -4 := c
    rw [va_up_ne _ _ (by omega), va_up_ne _ _ (by omega)] at y
    rw [va_up_ne _ _ (by omega)] at c
    exact a8 q q2 hq hq2 y c
theorem roadF_cg {L : zF1} {len : Nat} {th pe T th' pe' T' : zF1} (t0 : T 0 = -4) (t0' : T' 0 = -4) : roR T (roadF L len th pe T) (roadF L len th' pe' T') := by
  obtain ⟨c1, c2, c3, c4, c5⟩ := thiL_cg (L := L) (len := len) 10 0 0 th th' (fun q hq => absurd hq (by omega)) (fun j hj => absurd hj (by omega))
  obtain ⟨_, l2⟩ := thiL_le (L := L) (len := len) 10 (0, 0, th') (Nat.zero_le _)
  unfold roadF
  generalize thiL L len 10 (0, 0, th) = Z at c1 c2 c3 c4
  generalize thiL L len 10 (0, 0, th') = Z' at c1 c2 c3 c4 c5 l2
  rw [c1, c2]
  by_cases z : Z'.1 = 0
  · rw [if_pos z, if_pos z]; exact ⟨rfl, rfl, fun c => absurd rfl c⟩
  rw [if_neg z, if_neg z, c3]
  generalize Z'.2.1 = p
  generalize Z.2.2.2 = ta at c4
  generalize Z'.2.2.2 = tb at c4 c5
  generalize Z'.2.2.1 = n at c4 c5 l2
  have hn : n ≤ 10 := by simpa using l2
  have p0 : pR n 0 T pe T pe' T' := ⟨fun q hq => absurd hq (by omega), ⟨t0, t0'⟩, fun p hp => absurd hp (by omega), fun k _ _ => rfl, fun p hp => absurd hp (by omega), fun p hp => absurd hp (by omega), fun p q hp => absurd hp (by omega)⟩
  unfold roadG
  by_cases y : rdB L len p 59
  · rw [if_pos y, if_pos y]
    by_cases x : dgF (chF L len (nxP L (len - rdP L len p 59) (rdP L len p 59)))
    · rw [if_pos x, if_pos x]
      obtain ⟨d1, d2, d3, d4, d5⟩ := peoL_cg (L := L) (len := len) (Tb := T) hn 8 (nxP L (len - rdP L len p 59) (rdP L len p 59)) 0 pe T pe' T' (by omega) p0
      generalize peoL L len (nI n) 8 (nxP L (len - rdP L len p 59) (rdP L len p 59), 0, pe, T) = Y at d1 d2 d3 d5
      generalize peoL L len (nI n) 8 (nxP L (len - rdP L len p 59) (rdP L len p 59), 0, pe', T') = Y' at d1 d2 d3 d4 d5
      rw [d1, d2]
      by_cases w : Y'.1 = 0
      · rw [if_pos w, if_pos w]; exact ⟨rfl, rfl, fun c => absurd rfl c⟩
      rw [if_neg w, if_neg w]
      unfold roadH
      rw [d2, d3]
      by_cases v : rdB L len Y'.2.1 59
      · rw [if_pos v, if_pos v]; exact his_rd hn d4 c4 c5 d5
      · rw [if_neg v, if_neg v]; exact end_rd hn d4 c4 c5 d5
    · rw [if_neg x, if_neg x]
      exact his_rd hn (by omega) c4 c5 p0
  · rw [if_neg y, if_neg y]
    exact end_rd hn (by omega) c4 c5 p0
