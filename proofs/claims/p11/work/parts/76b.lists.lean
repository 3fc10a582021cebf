/-! answers that are told ahead, alike on both sides -/
def nz (T : zF1) : Prop := T 0 = -4 → T 1 = 0
theorem uq_off {np p : Nat} {th T : zF1} {mg hd c : Int32} (u : uq np T) (hp : p < np) : uq np (offT th mg hd c (5 + p) T) := by
  unfold offT
  split
  · split
    · obtain ⟨u1, u2⟩ := u
      have e0 : ∀ v, (va_up (va_up (va_up (va_up T (5 + p) (T 0)) 0 (T (5 + p))) 1 0) 4 v) 0 = T (5 + p) := fun v => by simp +decide only [va_g, if_true, if_false]
      have ep : ∀ v, (va_up (va_up (va_up (va_up T (5 + p) (T 0)) 0 (T (5 + p))) 1 0) 4 v) (5 + p) = T 0 := fun v => by rw [va_up_ne _ _ (by omega), va_up_ne _ _ (by omega), va_up_ne _ _ (by omega), va_up_self]
      have eq : ∀ v q, q ≠ p → (va_up (va_up (va_up (va_up T (5 + p) (T 0)) 0 (T (5 + p))) 1 0) 4 v) (5 + q) = T (5 + q) := fun v q hq => by rw [va_up_ne _ _ (by omega), va_up_ne _ _ (by omega), va_up_ne _ _ (by omega), va_up_ne _ _ (by omega)]
      refine ⟨fun q hq h => ?_, fun q r hq hr h hn => ?_⟩
      · rw [e0] at h ⊢
        by_cases z : q = p
        · subst z
          rw [ep] at h
          rw [← h]
          exact u1 q hq h.symm
        · rw [eq _ _ z] at h
          by_cases y : T (5 + p) = -4
          · exact y
          · exact absurd (u2 q p hq hp h (by rw [h]; exact y)) z
      · by_cases z : q = p
        · by_cases y : r = p
          · omega
          · subst z
            rw [ep, eq _ _ y] at h
            rw [ep] at hn
            exact absurd (u1 r hr h.symm) hn
        · by_cases y : r = p
          · subst y
            rw [ep, eq _ _ z] at h
            rw [eq _ _ z] at hn
            exact absurd (h.trans (u1 q hq h)) hn
          · rw [eq _ _ z, eq _ _ y] at h
            rw [eq _ _ z] at hn
            exact u2 q r hq hr h hn
    · exact u
  · exact u
theorem uq_eq {np : Nat} {T T' : zF1} (u : uq np T) (h0 : T' 0 = T 0) (h5 : ∀ p, p < np → T' (5 + p) = T (5 + p)) : uq np T' := by
  refine ⟨fun p hp h => ?_, fun p q hp hq h hn => ?_⟩
  · rw [h5 p hp, h0] at h; rw [h0]; exact u.1 p hp h
  · rw [h5 p hp, h5 q hq] at h; rw [h5 p hp] at hn; exact u.2 p q hp hq h hn
theorem uq_m {np : Nat} {T T' : zF1} (u : uq np T) (h0 : T' 0 = -4) (h5 : ∀ p, p < np → T' (5 + p) = T (5 + p)) : uq np T' := by
  refine ⟨fun p hp h => h0, fun p q hp hq h hn => ?_⟩
  rw [h5 p hp, h5 q hq] at h; rw [h5 p hp] at hn; exact u.2 p q hp hq h hn
theorem uq_peo {np : Nat} {rb th pe : zF1} {c : Int32} {S : zF1 × Int32} (u : uq np S.1) (z : nz S.1) : ∀ k, k ≤ np → uq np (peoF rb th pe c k S).1 ∧ nz (peoF rb th pe c k S).1 := by
  intro k
  induction k with
  | zero => intro _; exact ⟨u, z⟩
  | succ k ih =>
    intro hk
    obtain ⟨i1, i2⟩ := ih (by omega)
    rw [peoF, stepF]
    split
    · refine ⟨uq_off i1 (by omega), ?_⟩
      show nz (offT _ _ _ _ _ _)
      unfold offT
      split
      · split
        · intro _; simp +decide only [va_g, if_true, if_false]
        · exact i2
      · exact i2
    · exact ⟨i1, i2⟩
theorem uq_pass {np : Nat} {rb th pe : zF1} {c : Int32} {S : zF1 × Int32} (u : uq np S.1) (z : nz S.1) : uq np (passF rb th pe np c S).1 ∧ nz (passF rb th pe np c S).1 := by
  rw [passF_end]
  have f : uq np (feelsF rb th c S.1) ∧ nz (feelsF rb th c S.1) := by
    unfold feelsF
    split
    · next v =>
      unfold feelF
      refine ⟨uq_eq u (by simp +decide only [va_g, if_false]) (fun p hp => by rw [va_up_ne _ _ (by omega), va_up_ne _ _ (by omega)]), fun h => ?_⟩
      have h : S.1 0 = -4 := by simpa +decide only [va_g, if_false] using h
      rw [h] at v
      exact absurd v.1 (by decide)
    · exact ⟨u, z⟩
  obtain ⟨p1, p2⟩ := uq_peo (rb := rb) (th := th) (pe := pe) (c := c) (S := (feelsF rb th c S.1, S.2)) f.1 f.2 np (Nat.le_refl _)
  generalize peoF rb th pe c np (feelsF rb th c S.1, S.2) = A at p1 p2
  unfold endM
  have wl : uq np (wellF rb th A.1) ∧ nz (wellF rb th A.1) := by
    unfold wellF
    split
    · exact ⟨uq_m p1 (by simp +decide only [va_g, if_true, if_false]) (fun p hp => by rw [va_up_ne _ _ (by omega), va_up_ne _ _ (by omega)]), fun _ => by simp +decide only [va_g, if_true]⟩
    · exact ⟨p1, p2⟩
  refine ⟨uq_eq wl.1 (by simp +decide only [va_g, if_false]) (fun p hp => va_up_ne _ _ (by omega)), fun h => ?_⟩
  have h : wellF rb th A.1 0 = -4 := by simpa +decide only [va_g, if_false] using h
  show va_up (wellF rb th A.1) 3 (wellF rb th A.1 3 + 1) 1 = 0
  rw [va_up_ne _ _ (by decide)]
  exact wl.2 h
theorem firstL_cg {V Q V' Q' : Nat → Int32} {x : Int32} {nt : Nat} (h : ∀ k, k < nt → (V k = -4 ↔ V' k = -4) ∧ Q k = Q' k) : ∀ (j k : Nat) (s : Int32), k + j ≤ nt → firstL V Q x j k s = firstL V' Q' x j k s := by
  intro j
  induction j with
  | zero => intro k s _; rfl
  | succ j ih =>
    intro k s hk
    obtain ⟨a, b⟩ := h k (by omega)
    rw [firstL, firstL, ih _ _ (by omega), b]
    by_cases z : V k = -4
    · by_cases y : Q' k = x
      · rw [if_pos ⟨z, y⟩, if_pos ⟨a.mp z, y⟩]
      · rw [if_neg (fun q => y q.2), if_neg (fun q => y q.2)]
    · rw [if_neg (fun q => z q.1), if_neg (fun q => z (a.mpr q.1))]
theorem cht_cg {W : Nat → Int32} {v : Int32} (hW : ∀ h, h < 100 → -1000 < W h) : ∀ (j h : Nat) (s s' : Int32 × Int32), h + j ≤ 100 → s.1 = s'.1 → (s.1 = -4 ∧ s'.2 = -1000 ∨ ¬ s.1 = -4 ∧ s.2 = s'.2) → (heedL W v j h s).1 = (chtL W v j h s').1 := by
  intro j
  induction j with
  | zero => intro h s s' _ e _; exact e
  | succ j ih =>
    intro h s s' hj e q
    rw [heedL, chtL]
    have hn : ¬ nI h = -4 := (by decide : ∀ h, h < 100 → ¬ nI h = -4) h (by omega)
    by_cases z : W h ≤ v ∧ (s.1 = -4 ∨ s.2 < W h)
    · have z' : W h ≤ v ∧ s'.2 < W h := by
        refine ⟨z.1, ?_⟩
        rcases q with ⟨q1, q2⟩ | ⟨q1, q2⟩
        · rw [q2]; exact hW h (by omega)
        · rw [← q2]; exact z.2.resolve_left q1
      rw [if_pos z, if_pos z']
      exact ih _ _ _ (by omega) rfl (Or.inr ⟨hn, rfl⟩)
    · have z' : ¬ (W h ≤ v ∧ s'.2 < W h) := fun y => z ⟨y.1, by
        rcases q with ⟨q1, q2⟩ | ⟨q1, q2⟩
        · exact Or.inl q1
        · rw [q2]; exact Or.inr y.2⟩
      rw [if_neg z, if_neg z']
      exact ih _ _ _ (by omega) e q
theorem standL_cg {W W' : Nat → Int32} (h : ∀ k, W k = W' k) : ∀ (j k : Nat) (s : Int32 × Int32), standL W j k s = standL W' j k s := by
  have : W = W' := funext h
  subst this
  intro j k s
  rfl
theorem standL_1 {W : Nat → Int32} (h : ∀ k, -1 < W k) (j k : Nat) (m m' : Int32) : standL W (j + 1) k (-1, m) = standL W (j + 1) k (-1, m') := by
  rw [standL, standL, if_pos (h k), if_pos (h k)]
theorem wait_cg {wo wo' : Int32 → Int32} {V V' S : Nat → Int32} {nt : Nat} (hw : ∀ x, vx nt x → wo x = wo' x) (hV : ∀ k, k < nt → (V k = -4 ↔ V' k = -4)) (h10 : nt ≤ 10) : ∀ (j k : Nat) (s s' : Int32 × Int32), k + j ≤ nt → s.1 = s'.1 → vx nt s.1 → (¬ s.1 = -4 → s.2 = s'.2) → (s'.1 = -4 → s'.2 = -4) → (waitL wo V S j k s).1 = (waitL wo' V' S j k s').1 ∧ (¬ (waitL wo V S j k s).1 = -4 → (waitL wo V S j k s).2 = (waitL wo' V' S j k s').2) ∧ ((waitL wo' V' S j k s').1 = -4 → (waitL wo' V' S j k s').2 = -4) := by
  intro j
  induction j with
  | zero => intro k s s' _ a _ b c; exact ⟨a, b, c⟩
  | succ j ih =>
    intro k s s' hk a v b c
    rw [waitL, waitL]
    have vk : vx nt (nI k) := Or.inr ⟨k, by omega, rfl⟩
    have hn : ¬ nI k = -4 := (by decide : ∀ h, h < 10 → ¬ nI h = -4) k (by omega)
    have eq : ((s.1 = -4 ∨ wo (nI k) < wo s.1) ∧ V k = -4) ↔ ((s'.1 = -4 ∨ wo' (nI k) < wo' s'.1) ∧ V' k = -4) := by
      rw [hw _ vk, hw _ v, a, hV k (by omega)]
    by_cases z : (s.1 = -4 ∨ wo (nI k) < wo s.1) ∧ V k = -4
    · rw [if_pos z, if_pos (eq.mp z)]
      by_cases y : S k < 0
      · rw [if_pos y, if_pos y]; exact ih _ _ _ (by omega) a v b c
      · rw [if_neg y, if_neg y]
        exact ih _ _ _ (by omega) rfl vk (fun _ => rfl) (fun q => absurd q hn)
    · rw [if_neg z, if_neg (fun q => z (eq.mpr q))]
      exact ih _ _ _ (by omega) a v b c
/-- two who meet -/
def mr (A B : zF1) (h1 h2 : Int32) (P : zF1) : Prop := P 0 = A 0 ∧ P 1 = A 1 ∧ P 2 = A 2 ∧ P 3 = h1 ∧ P 4 = B 0 ∧ P 5 = B 1 ∧ P 6 = B 2 ∧ P 7 = h2
theorem times1 (m : Int32) : timesF 1 m = 1 := by unfold timesF; split <;> rfl
theorem turn_gl {nt : Nat} {th th' A P : zF1} {x hd : Int32} {a b : Nat} (h10 : nt ≤ 10) (h : thE nt th th') (a0 : P a = A 0) (a1 : P (a + 1) = A 1) (a3 : P (a + 3) = hd) (b0 : P b = x) (v0 : 0 ≤ A 0 ∧ A 0 < nI nt) (v1 : 0 ≤ x ∧ x < nI nt) : (gladF th 1 hd (feelF th 1 A) x ↔ trnP th' P a b) ∧ feelF th 1 A 2 = trnm th' P a := by
  have j0 := v_nat h10 v0
  have jx := v_nat h10 v1
  have e0 : feelF th 1 A 0 = A 0 := feelF_0 _ _ _
  have e1 : feelF th 1 A 1 = A 1 + 1 := by unfold feelF; simp +decide only [va_g, if_true, if_false]
  have tM : trnM th' P a ↔ feltF th' (A 0).toNatClampNeg 0 (A 1 + 1) < feltF th' (A 0).toNatClampNeg 1 (A 1 + 1) := by unfold trnM; rw [a0, a1]
  have hm : feelF th 1 A 2 = trnm th' P a := by
    unfold feelF trnm
    rw [va_up_self, Int32.mul_one, felt_cg h j0, felt_cg h j0]
    by_cases z : feltF th' (A 0).toNatClampNeg 0 (A 1 + 1) < feltF th' (A 0).toNatClampNeg 1 (A 1 + 1)
    · rw [if_neg (Int32.not_le.mpr z), if_pos (tM.mpr z)]
    · rw [if_pos (Int32.not_lt.mp z), if_neg (fun y => z (tM.mp y))]
  refine ⟨?_, hm⟩
  have wv : ∀ y : Int32, (0 ≤ y ∧ y < nI nt) → th (4 * y.toNatClampNeg + 1) = wrt th' y := fun y hy => by
    unfold wrt
    rw [if_neg (Int32.not_lt.mpr hy.1)]
    exact h _ (by have := v_nat h10 hy; omega)
  have tr : trnP th' P a b ↔ feltF th' x.toNatClampNeg (trnm th' P a) 0 < feltF th' (A 0).toNatClampNeg (trnm th' P a) (A 1 + 1) ∧ wrt th' (A 0) - wrt th' x ≤ hd := by
    by_cases z : trnM th' P a
    · have e : trnm th' P a = 1 := if_pos z
      unfold trnP
      rw [if_pos z, e, b0, a0, a1, a3]
    · have e : trnm th' P a = 0 := if_neg z
      unfold trnP
      rw [if_neg z, e, b0, a0, a1, a3]
  rw [tr]
  unfold gladF
  rw [e0, e1, hm, times1, Int32.mul_one, wv _ v0, wv _ v1, felt_cg h jx, felt_cg h j0]
theorem turn_A {nt : Nat} {th th' A B P : zF1} {hd h2 : Int32} (h10 : nt ≤ 10) (h : thE nt th th') (m : mr A B hd h2 P) (v0 : 0 ≤ A 0 ∧ A 0 < nI nt) (v1 : 0 ≤ B 0 ∧ B 0 < nI nt) : (turnC th hd A B = 0 ↔ ¬ trnP th' P 0 4) ∧ mr (turnA th hd A B) (turnB th hd A B) hd h2 (trnF th' P 0 4) := by
  obtain ⟨m0, m1, m2, m3, m4, m5, m6, m7⟩ := m
  obtain ⟨g, e⟩ := turn_gl (a := 0) (b := 4) h10 h m0 m1 m3 m4 v0 v1
  have e1 : feelF th 1 A 1 = A 1 + 1 := by unfold feelF; simp +decide only [va_g, if_true, if_false]
  refine ⟨?_, ?_⟩
  · unfold turnC; rw [bI_0, g]
  · unfold turnA turnB trnF
    by_cases z : trnP th' P 0 4
    · rw [if_pos z, if_pos (g.mpr z), if_pos (g.mpr z)]
      unfold trn1
      refine ⟨?_, ?_, ?_, ?_, ?_, ?_, ?_, ?_⟩ <;> simp +decide only [va_g, if_true, if_false] <;> first | assumption | exact e.symm
    · rw [if_neg z, if_neg (fun y => z (g.mp y)), if_neg (fun y => z (g.mp y))]
      unfold trn1
      refine ⟨?_, ?_, ?_, ?_, ?_, ?_, ?_, ?_⟩ <;> simp +decide only [va_g, if_true, if_false] <;> first | assumption | exact e.symm | (rw [feelF_0]; exact m0) | (rw [e1, m1])
theorem turn_B {nt : Nat} {th th' A B P : zF1} {hd h2 : Int32} (h10 : nt ≤ 10) (h : thE nt th th') (m : mr A B hd h2 P) (v0 : 0 ≤ A 0 ∧ A 0 < nI nt) (v1 : 0 ≤ B 0 ∧ B 0 < nI nt) : (turnC th h2 B A = 0 ↔ ¬ trnP th' P 4 0) ∧ mr (turnB th h2 B A) (turnA th h2 B A) hd h2 (trnF th' P 4 0) := by
  obtain ⟨m0, m1, m2, m3, m4, m5, m6, m7⟩ := m
  obtain ⟨g, e⟩ := turn_gl (a := 4) (b := 0) h10 h m4 m5 m7 m0 v1 v0
  have e1 : feelF th 1 B 1 = B 1 + 1 := by unfold feelF; simp +decide only [va_g, if_true, if_false]
  refine ⟨?_, ?_⟩
  · unfold turnC; rw [bI_0, g]
  · unfold turnA turnB trnF
    by_cases z : trnP th' P 4 0
    · rw [if_pos z, if_pos (g.mpr z), if_pos (g.mpr z)]
      unfold trn1
      refine ⟨?_, ?_, ?_, ?_, ?_, ?_, ?_, ?_⟩ <;> simp +decide only [va_g, if_true, if_false] <;> first | assumption | exact e.symm
    · rw [if_neg z, if_neg (fun y => z (g.mp y)), if_neg (fun y => z (g.mp y))]
      unfold trn1
      refine ⟨?_, ?_, ?_, ?_, ?_, ?_, ?_, ?_⟩ <;> simp +decide only [va_g, if_true, if_false] <;> first | assumption | exact e.symm | (rw [feelF_0]; exact m4) | (rw [e1, m5])
theorem tA_v {nt : Nat} {th A B : zF1} {hd : Int32} (v0 : 0 ≤ A 0 ∧ A 0 < nI nt) (v1 : 0 ≤ B 0 ∧ B 0 < nI nt) : (0 ≤ turnA th hd A B 0 ∧ turnA th hd A B 0 < nI nt) ∧ (0 ≤ turnB th hd A B 0 ∧ turnB th hd A B 0 < nI nt) := by
  unfold turnA turnB
  split
  · exact ⟨by simpa +decide only [va_g, if_true, if_false] using v1, by simpa +decide only [va_g, if_true, if_false] using v0⟩
  · rw [feelF_0]; exact ⟨v0, v1⟩
theorem mtL_2 (th : zF1) (r n : Nat) (P : zF1) : mtL th r n P 2 = (n, P, 2) := by
  cases r with
  | zero => rfl
  | succ r => rw [mtL, if_neg (by decide)]
theorem meet_cg {nt : Nat} {th th' : zF1} {hd : Int32} (h10 : nt ≤ 10) (h : thE nt th th') : ∀ (j n : Nat) (A B : zF1) (q : Int32) (P : zF1), (q = 0 ∨ q = 1) → mr A B hd 99 P → (0 ≤ A 0 ∧ A 0 < nI nt) → (0 ≤ B 0 ∧ B 0 < nI nt) → ((mtL th' j n P q).2.2 < 2 ∧ (meetL th hd j (n + 1) (A, B, q)).1 = -4) ∨ (¬ (mtL th' j n P q).2.2 < 2 ∧ (meetL th hd j (n + 1) (A, B, q)).1 = nI (mtL th' j n P q).1 ∧ (mtL th' j n P q).1 ≤ n + j ∧ (meetL th hd j (n + 1) (A, B, q)).2.1 0 = (mtL th' j n P q).2.1 0 ∧ (meetL th hd j (n + 1) (A, B, q)).2.2 0 = (mtL th' j n P q).2.1 4) := by
  intro j
  induction j with
  | zero =>
    intro n A B q P hq m v0 v1
    refine Or.inl ⟨?_, rfl⟩
    show q < 2
    rcases hq with rfl | rfl <;> decide
  | succ j ih =>
    intro n A B q P hq m v0 v1
    have q2 : q < 2 := by rcases hq with rfl | rfl <;> decide
    have q01 : ∀ (z : Prop) [Decidable z], (if z then q + 1 else 0) = 2 ∨ (if z then q + 1 else 0) = 0 ∨ (if z then q + 1 else 0) = 1 := fun z _ => by
      by_cases y : z
      · rw [if_pos y]; rcases hq with rfl | rfl <;> simp
      · rw [if_neg y]; simp
    rw [meetL, mtL, if_pos q2]
    dsimp only
    by_cases z : n % 2 = 0
    · rw [if_pos z, if_pos (show (n + 1) % 2 = 1 by omega)]
      obtain ⟨g, mr2⟩ := turn_A h10 h m v0 v1
      obtain ⟨w0, w1⟩ := tA_v (th := th) (hd := hd) v0 v1
      have eq : mtN (trnP th' P 0 4) q = if turnC th hd A B = 0 then q + 1 else 0 := by
        unfold mtN
        by_cases y : trnP th' P 0 4
        · rw [if_pos y, if_neg (fun c => g.mp c y)]
        · rw [if_neg y, if_pos (g.mpr y)]
      have yy := q01 (turnC th hd A B = 0)
      rw [eq]
      clear eq g
      generalize (if turnC th hd A B = 0 then q + 1 else 0) = q' at yy ⊢
      rcases yy with rfl | y
      · rw [if_pos rfl, mtL_2]
        exact Or.inr ⟨by show ¬ (2 : Int32) < 2; decide, rfl, by show n + 1 ≤ _; omega, mr2.1.symm, mr2.2.2.2.2.1.symm⟩
      · rw [if_neg (show ¬ q' = 2 by rcases y with y | y <;> rw [y] <;> decide)]
        have := ih (n + 1) (turnA th hd A B) (turnB th hd A B) _ _ y mr2 w0 w1
        rw [show n + (j + 1) = n + 1 + j by omega]
        exact this
    · rw [if_neg z, if_neg (show ¬ (n + 1) % 2 = 1 by omega)]
      obtain ⟨g, mr2⟩ := turn_B h10 h m v0 v1
      obtain ⟨w0, w1⟩ := tA_v (th := th) (hd := 99) v1 v0
      have eq : mtN (trnP th' P 4 0) q = if turnC th 99 B A = 0 then q + 1 else 0 := by
        unfold mtN
        by_cases y : trnP th' P 4 0
        · rw [if_pos y, if_neg (fun c => g.mp c y)]
        · rw [if_neg y, if_pos (g.mpr y)]
      have yy := q01 (turnC th 99 B A = 0)
      rw [eq]
      clear eq g
      generalize (if turnC th 99 B A = 0 then q + 1 else 0) = q' at yy ⊢
      rcases yy with rfl | y
      · rw [if_pos rfl, mtL_2]
        exact Or.inr ⟨by show ¬ (2 : Int32) < 2; decide, rfl, by show n + 1 ≤ _; omega, mr2.1.symm, mr2.2.2.2.2.1.symm⟩
      · rw [if_neg (show ¬ q' = 2 by rcases y with y | y <;> rw [y] <;> decide)]
        have := ih (n + 1) (turnB th 99 B A) (turnA th 99 B A) _ _ y mr2 w1 w0
        rw [show n + (j + 1) = n + 1 + j by omega]
        exact this
