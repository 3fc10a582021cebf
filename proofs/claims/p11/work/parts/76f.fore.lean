/-! what is told and foretold is alike -/
theorem sub_sh (x y d : Int32) : (x + d) - (y + d) = x - y := by grind
theorem SX.hm {A B : zM} {nt np a u len : Nat} {d : Int32} (S : SX A B nt np a u len) (t : trx np d s5 (A.1 16) (B.1 141)) : trx np d s5 (hmF A 1 np a).1 (hmR B 138 np a).1 ∧ (hmF A 1 np a).2 = (hmR B 138 np a).2 := home_cg S.bd.1 S.rb S.th S.pe (12 - a) (A.1 16, -4) (B.1 141, -4) t rfl
theorem a_home {A B : zM} {nt np a u len : Nat} {k : Int32} (S : SX A B nt np a u len) : homR B 138 np a k = homS A 1 np a k := by
  obtain ⟨d, t⟩ := S.tr
  obtain ⟨h, e⟩ := S.hm t
  unfold homR homS
  rw [h.1, h.2.2.2.2.1, e, show A.1 (1 + 15) 4 = B.1 141 4 + d from t.2.2.2.2.1, sub_sh]
theorem hmR_vx {A B : zM} {nt np a u len : Nat} (S : SX A B nt np a u len) : tv9 nt (hmR B 138 np a).1 := hmR_tv S.rok
theorem a_lost {A B : zM} {nt np a u len : Nat} (S : SX A B nt np a u len) : lostR B 138 np a = lostS A 1 np a := by
  obtain ⟨d, t⟩ := S.tr
  obtain ⟨h, e⟩ := S.hm t
  unfold lostR lostS
  rw [h.1, show A.1 (1 + 15) 0 = B.1 141 0 from t.1, show A.1 (1 + 1) 0 = nI nt from S.cf.1, worth_cg S.bd.1 S.th S.tk.1.1, worth_cg S.bd.1 S.th (hmR_vx S).1]
theorem wait_QQ {A B : zM} {nt np a u len : Nat} (S : SX A B nt np a u len) (k : Nat) : waitQ (A.1 2) (A.1 3) (A.1 14) np a (A.1 16) k = lurQ (rbM (B.1 138)) (B.1 139) (B.1 140) np a (B.1 141) k := by
  obtain ⟨d, t0, t1, t2, t3, t4, t5⟩ := S.tr
  have h8 := S.bd.2.1
  funext m
  unfold waitQ lurQ
  have hr : rbE nt (va_up (A.1 2) 1 (nI (np + 1))) (rbM (B.1 138)) := S.rb
  have hp : peE np (va_up (va_up (A.1 14) (2 * np) (nI m)) (2 * np + 1) 0) (B.1 140) := fun q hq => by rw [va_up_ne _ _ (by omega), va_up_ne _ _ (by omega)]; exact S.pe q hq
  have tt : trx (np + 1) d (s13 np) (va_up (A.1 16) (5 + np) (nI k)) (va_up (B.1 141) 13 (nI k)) := by
    refine ⟨?_, ?_, ?_, ?_, ?_, fun p hp => ?_⟩
    · rw [va_up_ne _ _ (by omega), va_up_ne _ _ (by omega), t0]
    · rw [va_up_ne _ _ (by omega), va_up_ne _ _ (by omega), t1]
    · rw [va_up_ne _ _ (by omega), va_up_ne _ _ (by omega), t2]
    · rw [va_up_ne _ _ (by omega), va_up_ne _ _ (by omega), t3]
    · rw [va_up_ne _ _ (by omega), va_up_ne _ _ (by omega), t4]
    · by_cases z : p < np
      · rw [show s13 np p = 5 + p from if_pos z, va_up_ne _ _ (by omega), va_up_ne _ _ (by omega)]
        exact t5 p z
      · obtain rfl : p = np := by omega
        rw [show s13 p p = 13 from if_neg z, va_up_self, va_up_self]
  have h := homeM_cg (d := d) S.bd.1 h8 hr S.th hp (mo := nI m) (by rw [va_up_ne _ _ (by omega), va_up_self]) (va_up_self _ _ _) (12 - a) (va_up (A.1 16) (5 + np) (nI k), -4) (va_up (B.1 141) 13 (nI k), -4) tt rfl
  have := h.2.2.2.2.2 np (by omega)
  rw [show s13 np np = 13 from if_neg (by omega)] at this
  exact this
theorem a_lurk {A B : zM} {nt np a u len : Nat} {x k m0 : Int32} (S : SX A B nt np a u len) : (if (0 ≤ x ∧ x < B.1 138 0) ∧ ¬ (k < 0 ∨ 1 < k) then (if whoR (B.1 141) x np = -4 then -2 else if k = 0 then (lurW (rbM (B.1 138)) (B.1 139) (B.1 140) np a nt (B.1 141) x).1 else (lurW (rbM (B.1 138)) (B.1 139) (B.1 140) np a nt (B.1 141) x).2) else -1) = lrkS A 1 np a nt x k m0 := by
  obtain ⟨d, t⟩ := S.tr
  have eS : (fun k => waitS (waitQ (A.1 2) (A.1 3) (A.1 14) np a (A.1 16) k) x (12 - a) a) = (fun k => waitS (lurQ (rbM (B.1 138)) (B.1 139) (B.1 140) np a (B.1 141) k) x (12 - a) a) := funext fun k => by rw [wait_QQ S]
  have hw : ∀ y, vx nt y → worthO (A.1 3) (nI nt) y = wrt (B.1 139) y := fun y hy => worth_cg S.bd.1 S.th hy
  have hV : ∀ k, k < nt → ((fun k => whoF (A.1 16) np (nI k)) k = -4 ↔ (fun k => whoR (B.1 141) (nI k) np) k = -4) := fun k _ => who_cg S.bd.2.1 t
  have W := wait_cg (S := fun k => waitS (lurQ (rbM (B.1 138)) (B.1 139) (B.1 140) np a (B.1 141) k) x (12 - a) a) hw hV S.bd.1 nt 0 (-4, m0) (-4, -4) (by omega) rfl (Or.inl rfl) (fun z => absurd rfl z) (fun _ => rfl)
  have e1 : wtS A 1 np a nt x m0 = waitL (worthO (A.1 3) (nI nt)) (fun k => whoF (A.1 16) np (nI k)) (fun k => waitS (lurQ (rbM (B.1 138)) (B.1 139) (B.1 140) np a (B.1 141) k) x (12 - a) a) nt 0 (-4, m0) := by rw [← eS, ← S.cf.1]; rfl
  unfold lrkS
  rw [e1, show A.1 (1 + 1) 0 = nI nt from S.cf.1, S.rf.1]
  unfold lurW
  generalize waitL (worthO (A.1 3) (nI nt)) (fun k => whoF (A.1 16) np (nI k)) (fun k => waitS (lurQ (rbM (B.1 138)) (B.1 139) (B.1 140) np a (B.1 141) k) x (12 - a) a) nt 0 (-4, m0) = C at W
  generalize waitL (wrt (B.1 139)) (fun k => whoR (B.1 141) (nI k) np) (fun k => waitS (lurQ (rbM (B.1 138)) (B.1 139) (B.1 140) np a (B.1 141) k) x (12 - a) a) nt 0 (-4, -4) = R at W
  obtain ⟨w1, w2, w3⟩ := W
  by_cases hb : (0 ≤ x ∧ x < nI nt) ∧ ¬ (k < 0 ∨ 1 < k)
  · rw [if_pos hb, if_pos hb]
    by_cases hw2 : whoR (B.1 141) x np = -4
    · rw [if_pos hw2, if_pos ((who_cg S.bd.2.1 t).mpr hw2)]
    · rw [if_neg hw2, if_neg (fun z => hw2 ((who_cg S.bd.2.1 t).mp z))]
      by_cases z : C.1 = -4
      · rw [if_pos z]
        have z' : R.1 = -4 := w1.symm.trans z
        rw [z', w3 z']
        split <;> rfl
      · rw [if_neg z, w1, w2 z]
  · rw [if_neg hb, if_neg hb]
theorem wrt_ge {nt : Nat} {th : zF1} {x : Int32} (h10 : nt ≤ 10) (hW : wOK nt th) (v : vx nt x) : ∃ z, z ≤ 99 ∧ wrt th x = nI z := by
  rcases v with rfl | ⟨j, hj, rfl⟩
  · exact ⟨0, by omega, rfl⟩
  · obtain ⟨z, h1, h2⟩ := hW j hj
    exact ⟨z, h1, by rw [wrt_n _ (by omega), h2]⟩
theorem stand_W {A B : zM} {nt np a u len p : Nat} (S : SX A B nt np a u len) (hp : p < np) (k : Nat) : standW (A.1 2) (A.1 3) (A.1 14) np a (A.1 16) p k = stdW (rbM (B.1 138)) (B.1 139) (B.1 140) np a (B.1 141) p k ∧ -1 < stdW (rbM (B.1 138)) (B.1 139) (B.1 140) np a (B.1 141) p k := by
  obtain ⟨d, t⟩ := S.tr
  have hpe : peE np (va_up (A.1 14) (2 * p) (nI k)) (va_up (B.1 140) (2 * p) (nI k)) := fun q hq => by
    by_cases z : q = 2 * p
    · subst z; rw [va_up_self, va_up_self]
    · rw [va_up_ne _ _ z, va_up_ne _ _ z]; exact S.pe q hq
  have h := (home_cg S.bd.1 S.rb S.th hpe (12 - a) (A.1 16, -4) (B.1 141, -4) t rfl).1
  have tv : tv9 nt (homeF (rbM (B.1 138)) (B.1 139) (va_up (B.1 140) (2 * p) (nI k)) np (12 - a) (B.1 141, -4)).1 := hm_tv _ _ _ (by have := S.bd.2.1; omega) (a := a) S.ta (by have := S.bd.2.2.1; omega) S.tk.1
  have v := tv.2.1 p (by have := S.bd.2.1; omega)
  unfold standW stdW
  rw [h.2.2.2.2.2 p hp, S.cf.1]
  obtain ⟨z, z1, z2⟩ := wrt_ge S.bd.1 S.kd.2.1 v
  refine ⟨worth_cg S.bd.1 S.th v, ?_⟩
  rw [z2]
  exact Int32.lt_of_lt_of_le (by decide : (-1 : Int32) < 0) (nI_pos' (by omega))
theorem a_stand {A B : zM} {nt np a u len : Nat} {x k m0 : Int32} (S : SX A B nt np a u len) : (if (0 ≤ x ∧ x < B.1 138 1) ∧ ¬ (k < 0 ∨ 1 < k) then (if a = 12 then -2 else if k = 0 then (standL (stdW (rbM (B.1 138)) (B.1 139) (B.1 140) np a (B.1 141) x.toNatClampNeg) (12 - a) a (-1, -4)).2 else (standL (stdW (rbM (B.1 138)) (B.1 139) (B.1 140) np a (B.1 141) x.toNatClampNeg) (12 - a) a (-1, -4)).1) else -1) = (if (0 ≤ x ∧ x < A.1 2 1) ∧ ¬ (k < 0 ∨ 1 < k) then (if 12 ≤ A.1 16 3 then -2 else if k = 0 then (stdS A 1 np a x.toNatClampNeg m0).2 else (stdS A 1 np a x.toNatClampNeg m0).1) else -1) := by
  obtain ⟨d, t⟩ := S.tr
  have h12 := S.bd.2.2.1
  have h8 := S.bd.2.1
  rw [S.rf.2.1, S.cf.2.1]
  by_cases hb : (0 ≤ x ∧ x < nI np) ∧ ¬ (k < 0 ∨ 1 < k)
  · rw [if_pos hb, if_pos hb]
    have hp : x.toNatClampNeg < np := by
      obtain ⟨j, hj, rfl⟩ := n_in hb.1 (by omega)
      rw [nI_clamp (by omega)]; exact hj
    have e3 : A.1 16 3 = nI a := t.2.2.2.1.trans S.ta
    by_cases z : a = 12
    · rw [if_pos z, if_pos (show 12 ≤ A.1 16 3 by rw [e3, z]; decide)]
    · rw [if_neg z, if_neg (show ¬ 12 ≤ A.1 16 3 by rw [e3]; exact nI_ge (b := 12) (by omega) (by decide))]
      have e : stdS A 1 np a x.toNatClampNeg m0 = standL (stdW (rbM (B.1 138)) (B.1 139) (B.1 140) np a (B.1 141) x.toNatClampNeg) (12 - a) a (-1, -4) := by
        show standL (standW (A.1 2) (A.1 3) (A.1 14) np a (A.1 16) x.toNatClampNeg) (12 - a) a (-1, m0) = _
        rw [standL_cg (fun k => (stand_W S hp k).1), show 12 - a = (11 - a) + 1 by omega]
        exact standL_1 (fun k => (stand_W S hp k).2) _ _ _ _
      rw [e]
  · rw [if_neg hb, if_neg hb]
theorem a_sister {A B : zM} {nt np a u len : Nat} {x k : Int32} (S : SX A B nt np a u len) : (if (0 ≤ x ∧ x < B.1 138 0) ∧ ¬ (k < 0 ∨ 1 < k) then (if whoR (hmR B 138 np a).1 x np = -4 then (if k = 0 then wrt (B.1 139) x else 0) else -2) else -1) = (if (0 ≤ x ∧ x < A.1 2 0) ∧ ¬ (k < 0 ∨ 1 < k) then (if whoF (hmF A 1 np a).1 np x = -4 then (if k = 0 then worthO (A.1 3) (A.1 2 0) x else 0) else -2) else -1) := by
  obtain ⟨d, t⟩ := S.tr
  obtain ⟨h, e⟩ := S.hm t
  rw [S.rf.1, S.cf.1]
  by_cases hb : (0 ≤ x ∧ x < nI nt) ∧ ¬ (k < 0 ∨ 1 < k)
  · rw [if_pos hb, if_pos hb]
    have hv : vx nt x := by
      obtain ⟨j, hj, rfl⟩ := n_in hb.1 (by have := S.bd.1; omega)
      exact Or.inr ⟨j, hj, rfl⟩
    rw [worth_cg S.bd.1 S.th hv]
    by_cases z : whoR (hmR B 138 np a).1 x np = -4
    · rw [if_pos z, if_pos ((who_cg S.bd.2.1 h).mpr z)]
    · rw [if_neg z, if_neg (fun y => z ((who_cg S.bd.2.1 h).mp y))]
  · rw [if_neg hb, if_neg hb]
theorem a_first {A B : zM} {nt np a u len : Nat} {x : Int32} (S : SX A B nt np a u len) : (if 0 ≤ x ∧ x < B.1 138 0 then firstL (fun k => whoR (B.1 141) (nI k) np) (firstR (rbM (B.1 138)) (B.1 139) (B.1 140) np a (B.1 141)) x nt 0 0 else -1) = (if 0 ≤ x ∧ x < A.1 2 0 then firstL (fun k => whoF (A.1 16) np (nI k)) (firstQ (A.1 2) (A.1 3) (A.1 14) np a (A.1 16)) x nt 0 0 else -1) := by
  obtain ⟨d, t⟩ := S.tr
  obtain ⟨t0, t1, t2, t3, t4, t5⟩ := id t
  rw [S.rf.1, S.cf.1]
  by_cases hb : 0 ≤ x ∧ x < nI nt
  · rw [if_pos hb, if_pos hb]
    refine (firstL_cg (nt := nt) (fun k hk => ⟨who_cg S.bd.2.1 t, ?_⟩) nt 0 0 (by omega)).symm
    unfold firstQ firstR
    have e1 : A.1 16 1 = if B.1 141 0 = -4 then 0 else B.1 141 1 := by
      by_cases z : B.1 141 0 = -4
      · rw [if_pos z, t1]; exact S.tk.2.2.1 z
      · rw [if_neg z, t1]
    have tt : trx np d s5 (va_up (A.1 16) 0 (nI k)) (va_up (va_up (B.1 141) 0 (nI k)) 1 (if B.1 141 0 = -4 then 0 else B.1 141 1)) := by
      refine ⟨?_, ?_, ?_, ?_, ?_, fun p hp => ?_⟩
      · simp +decide only [va_g, if_true, if_false]
      · rw [va_up_ne _ _ (by decide), va_up_self, e1]
      · simp +decide only [va_g, if_false, t2]
      · simp +decide only [va_g, if_false, t3]
      · simp +decide only [va_g, if_false, t4]
      · show va_up _ _ _ (5 + p) = va_up _ _ _ (5 + p)
        rw [va_up_ne _ _ (by omega), va_up_ne _ _ (by omega), va_up_ne _ _ (by omega)]
        exact t5 p hp
    exact (home_cg S.bd.1 S.rb S.th S.pe (12 - a) (va_up (A.1 16) 0 (nI k), -4) (va_up (va_up (B.1 141) 0 (nI k)) 1 (if B.1 141 0 = -4 then 0 else B.1 141 1), -4) tt rfl).1.1
  · rw [if_neg hb, if_neg hb]
theorem a_cheated {A B : zM} {nt np a u len : Nat} {v : Int32} (S : SX A B nt np a u len) : (if v < -99 ∨ 99 < v then -1 else (chtL (chtW (rbM (B.1 138)) (B.1 139) (B.1 140) np a (B.1 141)) v 100 0 (-4, -1000)).1) = (if v < -99 ∨ 99 < v then -1 else (heedL (heedW (A.1 2) (A.1 3) (A.1 14) np a (A.1 16)) v 100 0 (-4, 0)).1) := by
  obtain ⟨d, t⟩ := S.tr
  have eW : ∀ h, heedW (A.1 2) (A.1 3) (A.1 14) np a (A.1 16) h = chtW (rbM (B.1 138)) (B.1 139) (B.1 140) np a (B.1 141) h ∧ -1000 < chtW (rbM (B.1 138)) (B.1 139) (B.1 140) np a (B.1 141) h := fun h => by
    have hr : rbE nt (va_up (A.1 2) 2 (nI h)) (va_up (rbM (B.1 138)) 2 (nI h)) := ⟨S.rb.1, S.rb.2.1, rfl, S.rb.2.2.2⟩
    have hh := (home_cg S.bd.1 hr S.th S.pe (12 - a) (A.1 16, -4) (B.1 141, -4) t rfl).1
    have tv : tv9 nt (homeF (va_up (rbM (B.1 138)) 2 (nI h)) (B.1 139) (B.1 140) np (12 - a) (B.1 141, -4)).1 := hm_tv _ _ _ (by have := S.bd.2.1; omega) (a := a) S.ta (by have := S.bd.2.2.1; omega) S.tk.1
    unfold heedW chtW
    rw [hh.1, t.1, S.cf.1, worth_cg S.bd.1 S.th S.tk.1.1, worth_cg S.bd.1 S.th tv.1]
    refine ⟨rfl, ?_⟩
    obtain ⟨z1, y1, e1⟩ := wrt_ge S.bd.1 S.kd.2.1 S.tk.1.1
    obtain ⟨z2, y2, e2⟩ := wrt_ge S.bd.1 S.kd.2.1 tv.1
    rw [e1, e2, Int32.lt_iff_toInt_lt, pk_sub_toInt (by omega) (by omega), show (-1000 : Int32).toInt = -1000 by decide]
    omega
  have eF : heedW (A.1 2) (A.1 3) (A.1 14) np a (A.1 16) = chtW (rbM (B.1 138)) (B.1 139) (B.1 140) np a (B.1 141) := funext fun h => (eW h).1
  rw [eF, cht_cg (fun h _ => (eW h).2) 100 0 (-4, 0) (-4, -1000) (by omega) rfl (Or.inl ⟨rfl, rfl⟩)]
theorem a_chance {A B : zM} {nt np a u len : Nat} {x k : Int32} (S : SX A B nt np a u len) : (if (¬ x = -4 ∧ ¬ (0 ≤ x ∧ x < B.1 138 0)) ∨ (k < 0 ∨ 1 < k) then -1 else if a < 2 then -3 else if k = 0 then (redL (12 - a) (nI (chN (chQ (rbM (B.1 138)) (B.1 139) (B.1 140) np a (B.1 141)) x (2 ^ (12 - a))))).1 else (redL (12 - a) (nI (chN (chQ (rbM (B.1 138)) (B.1 139) (B.1 140) np a (B.1 141)) x (2 ^ (12 - a))))).2) = (if (¬ x = -4 ∧ ¬ (0 ≤ x ∧ x < A.1 2 0)) ∨ (k < 0 ∨ 1 < k) then -1 else if a < 2 then -3 else if k = 0 then (redL (12 - a) (waysF (A.1 2) (A.1 3) (A.1 14) np x 10 (A.1 16))).1 else (redL (12 - a) (waysF (A.1 2) (A.1 3) (A.1 14) np x 10 (A.1 16))).2) := by
  obtain ⟨d, t⟩ := S.tr
  rw [S.rf.1, S.cf.1]
  by_cases z : a < 2
  · rw [if_pos z, if_pos z]
  · rw [if_neg z, if_neg z, chance_cg S.bd.1 S.rb S.th S.pe t S.ta S.bd.2.2.1 z]
theorem a_of {A B : zM} {nt np a u len : Nat} {x k : Int32} (S : SX A B nt np a u len) : ofR (B.1 138) (B.1 139) (B.1 141) np x k = ofS (A.1 2) (A.1 3) (A.1 16) np x k := by
  obtain ⟨d, t⟩ := S.tr
  unfold ofR ofS
  rw [S.rf.1, S.cf.1]
  by_cases hb : 0 ≤ x ∧ x < nI nt
  · have hj := v_nat S.bd.1 hb
    have hx : ¬ x = -4 := fun z => by rw [z] at hb; exact absurd hb.1 (by decide)
    rw [if_pos hb, if_pos hb, S.th (4 * x.toNatClampNeg) (by omega), S.th (4 * x.toNatClampNeg + 1) (by omega), S.th (4 * x.toNatClampNeg + 2) (by omega), S.th (4 * x.toNatClampNeg + 3) (by omega), who_eq S.bd.2.1 t S.tk.2.1 hx]
  · rw [if_neg hb, if_neg hb]
theorem a_felt {A B : zM} {nt np a u len : Nat} {x n k : Int32} (S : SX A B nt np a u len) : fltS (B.1 138) (B.1 139) x n k = fltS (A.1 2) (A.1 3) x n k := by
  unfold fltS
  rw [S.rf.1, S.cf.1]
  by_cases hb : (0 ≤ x ∧ x < nI nt) ∧ ¬ (n < 0 ∨ 99 < n) ∧ ¬ (k < 0 ∨ 1 < k)
  · rw [if_pos hb, if_pos hb, felt_cg S.th (v_nat S.bd.1 hb.1)]
  · rw [if_neg hb, if_neg hb]
theorem a_told {A B : zM} {nt np a u len : Nat} {p k : Int32} (S : SX A B nt np a u len) : toldS (B.1 138) (B.1 140) (B.1 141) p k = toldS (A.1 2) (A.1 14) (A.1 16) p k := by
  obtain ⟨d, t⟩ := S.tr
  unfold toldS
  rw [S.rf.2.1, S.cf.2.1]
  by_cases hb : 0 ≤ p ∧ p < nI np
  · have hj : p.toNatClampNeg < np := by
      obtain ⟨j, hj, rfl⟩ := n_in hb (by have := S.bd.2.1; omega)
      rw [nI_clamp (by have := S.bd.2.1; omega)]; exact hj
    rw [if_pos hb, if_pos hb, S.pe (2 * p.toNatClampNeg) (by omega), S.pe (2 * p.toNatClampNeg + 1) (by omega), t.2.2.2.2.2 _ hj]
    rfl
  · rw [if_neg hb, if_neg hb]
theorem a_count {A B : zM} {nt np a u len : Nat} {k : Int32} (S : SX A B nt np a u len) (h8 : ¬ k = 8) : cntS (rbM (B.1 138)) (B.1 141) (B.1 138 20) k = cntS (A.1 2) (A.1 16) (A.1 1 3) k := by
  obtain ⟨d, t0, t1, t2, t3, t4, t5⟩ := S.tr
  obtain ⟨c1, c2, c3, c4, c5⟩ := S.cf
  obtain ⟨r1, r2, r3⟩ := S.rf
  unfold cntS
  rw [show rbM (B.1 138) 0 = B.1 138 0 from rfl, show rbM (B.1 138) 1 = B.1 138 1 from rfl, show rbM (B.1 138) 2 = B.1 138 5 from rfl, show rbM (B.1 138) 3 = B.1 138 6 from rfl, r1, r2, r3, ← c3, ← c4, c1, c2, c5, t0, t1, t2, t3, if_neg h8, if_neg h8]
theorem a_glad {A B : zM} {nt np a u len : Nat} {x : Int32} (S : SX A B nt np a u len) : gldS (rbM (B.1 138)) (B.1 139) (B.1 141) x = gldS (A.1 2) (A.1 3) (A.1 16) x := by
  obtain ⟨d, t0, t1, t2, t3, t4, t5⟩ := S.tr
  unfold gldS
  rw [S.rb.2.1, S.rb.1, S.rb.2.2.1]
  by_cases hb : 0 ≤ x ∧ x < nI nt
  · rw [if_pos hb, if_pos hb]
    by_cases z : B.1 141 0 = -4 ∨ B.1 141 0 = x
    · rw [if_pos z, if_pos (show A.1 16 0 = -4 ∨ A.1 16 0 = x by rw [t0]; exact z)]
    · rw [if_neg z, if_neg (show ¬ (A.1 16 0 = -4 ∨ A.1 16 0 = x) by rw [t0]; exact z)]
      refine bI_cg (glad_cg S.bd.1 S.th t0 t1 t2 ?_ hb).symm
      rcases S.tk.1.1 with y | ⟨j, hj, y⟩
      · exact absurd (Or.inl y) z
      · rw [y]; exact ⟨nI_pos' (by have := S.bd.1; omega), nI_lt hj (by have := S.bd.1; omega)⟩
  · rw [if_neg hb, if_neg hb]
