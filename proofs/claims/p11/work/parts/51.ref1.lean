theorem c_X8_in {l : Launch} {w : zE} (J : zJ w) {M : zM} {v lo hi : Int64} : zCi l w yX8_in cX8_in 6 (some .boolean) 0 [.long v, .long lo, .long hi] M (fun r M2 => M2 = M ∧ r = bI (lo ≤ v ∧ v ≤ hi)) := by
  refine zCi_of J zm_X8_in [some (.long v), none, some (.long lo), none, some (.long hi), none] (Nat.le_of_ble_eq_true rfl) rfl (fun g hg F X => ?_)
  subst hg
  refine z_lload_n F dX8_in_0 rfl ?_
  refine z_lload_n F dX8_in_1 rfl ?_
  refine z_lcmp F dX8_in_2 ?_
  refine z_if_lt (tgt := 17) F dX8_in_3 (by decide) (fun h_3 => ?_) (fun h_3 => ?_)
  · try simp only [lg_cmp_ge, lg_cmp_lt, lg_cmp_gt, lg_cmp_le] at h_3
    refine z_iconst (v := 0) F dX8_in_17 (by decide) ?_
    refine z_zret F X dX8_in_18 (by decide) ?_
    refine ⟨rfl, ?_⟩
    first | exact bI_t ⟨h_3, h_10⟩ | exact bI_f (fun q => absurd h_3 (Int64.not_lt.mpr q.1)) | exact bI_f (fun q => absurd h_10 (Int64.not_lt.mpr q.2))
  · try simp only [lg_cmp_ge, lg_cmp_lt, lg_cmp_gt, lg_cmp_le] at h_3
    refine z_lload_n F dX8_in_6 rfl ?_
    refine z_lload F dX8_in_7 rfl ?_
    refine z_lcmp F dX8_in_9 ?_
    refine z_if_gt (tgt := 17) F dX8_in_10 (by decide) (fun h_10 => ?_) (fun h_10 => ?_)
    · try simp only [lg_cmp_ge, lg_cmp_lt, lg_cmp_gt, lg_cmp_le] at h_10
      refine z_iconst (v := 0) F dX8_in_17 (by decide) ?_
      refine z_zret F X dX8_in_18 (by decide) ?_
      refine ⟨rfl, ?_⟩
      first | exact bI_t ⟨h_3, h_10⟩ | exact bI_f (fun q => absurd h_3 (Int64.not_lt.mpr q.1)) | exact bI_f (fun q => absurd h_10 (Int64.not_lt.mpr q.2))
    · try simp only [lg_cmp_ge, lg_cmp_lt, lg_cmp_gt, lg_cmp_le] at h_10
      refine z_iconst (v := 1) F dX8_in_13 (by decide) ?_
      refine z_goto (tgt := 18) F dX8_in_14 (by decide) ?_
      refine z_zret F X dX8_in_18 (by decide) ?_
      refine ⟨rfl, ?_⟩
      first | exact bI_t ⟨h_3, h_10⟩ | exact bI_f (fun q => absurd h_3 (Int64.not_lt.mpr q.1)) | exact bI_f (fun q => absurd h_10 (Int64.not_lt.mpr q.2))
theorem zCi_post {l : Launch} {w : zE} {y : MethodName} {bytes : ByteArray} {maxL d : Nat} {ret : Option FieldType} {args : List Value} {M : zM} {p1 p2 : Int32 → zM → Prop} (h : ∀ v M2, p1 v M2 → p2 v M2) (hC : zCi l w y bytes maxL ret d args M p1) : zCi l w y bytes maxL ret d args M p2 := zCi_mono (fun v M2 q => ⟨M2, zEq.rf _, h v M2 q⟩) hC
theorem zCv_post {l : Launch} {w : zE} {y : MethodName} {bytes : ByteArray} {maxL d : Nat} {args : List Value} {M : zM} {p1 p2 : zM → Prop} (h : ∀ M2, p1 M2 → p2 M2) (hC : zCv l w y bytes maxL d args M p1) : zCv l w y bytes maxL d args M p2 := zCv_mono (fun M2 q => ⟨M2, zEq.rf _, h M2 q⟩) hC
theorem bI_cg {p q : Prop} [Decidable p] [Decidable q] (h : p ↔ q) : bI p = bI q := by unfold bI; by_cases hp : p <;> simp [hp, h.mp, show q ↔ p from h.symm]
theorem d_X8_in {l : Launch} {w : zE} (J : zJ w) {M : zM} {x a b : Int32} {lo hi : Int64} (ha : a.toInt64 = lo) (hb : b.toInt64 = hi) : zCi l w yX8_in cX8_in 6 (some .boolean) 0 [.long x.toInt64, .long lo, .long hi] M (fun r M2 => M2 = M ∧ r = bI (a ≤ x ∧ x ≤ b)) :=
  zCi_post (fun v M2 q => ⟨q.1, q.2.trans (bI_cg (by rw [← ha, ← hb, i2l_le, i2l_le]))⟩) (c_X8_in J)
theorem c_X8_isThing {l : Launch} {w : zE} (J : zJ w) {M : zM} {o nt : Nat} {v : Int64} (hk : zk o = 8) (hnt : M.1 o 0 = nI nt) (h10 : nt ≤ 10) : zCi l w yX8_isThing cX8_isThing 3 (some .boolean) 1 [.ref (w.2.2 o), .long v] M (fun r M2 => M2 = M ∧ r = bI (0 ≤ v ∧ v < (M.1 o 0).toInt64)) := by
  have e : ∀ v : Int64, v ≤ (M.1 o 0 - 1).toInt64 ↔ v < (M.1 o 0).toInt64 := by
    intro v
    have h1 := pk_sub_toInt (a := nt) (b := 1) (by omega) (by decide)
    have h2 := nI_toInt (n := nt) (by omega)
    rw [hnt, Int64.le_iff_toInt_le, Int64.lt_iff_toInt_lt, Int32.toInt_toInt64, Int32.toInt_toInt64, h2]
    have h3 : (nI nt - 1).toInt = (nt : Int) - 1 := h1
    rw [h3]
    omega
  refine zCi_of J zm_X8_isThing [some (.ref (w.2.2 o)), some (.long v), none] (Nat.le_of_ble_eq_true rfl) rfl (fun g hg F X => ?_)
  subst hg
  refine z_lload_n F dX8_isThing_0 rfl ?_
  refine z_lconst (v := 0) F dX8_isThing_1 (by decide) ?_
  refine z_aload_n F dX8_isThing_2 rfl ?_
  refine zg_X8_things F (by with_reducible assumption) fl_X8_69 dX8_isThing_3 ?_
  refine z_iconst (v := 1) F dX8_isThing_6 (by decide) ?_
  refine z_isub F dX8_isThing_7 ?_
  refine z_i2l F dX8_isThing_8 ?_
  refine z_callSi F (c_X8_in J) zm_X8_in zst_X8_in ml_X8_72 rfl rfl (Nat.le_of_ble_eq_true rfl) dX8_isThing_9 (by omega) (fun r_9 M_9 h_9 => ?_)
  obtain ⟨e_9, rfl⟩ := h_9
  replace e_9 := Eq.symm e_9
  subst e_9
  refine z_zret F X dX8_isThing_12 (bI_nar _) ?_
  exact ⟨rfl, bI_cg (by rw [e])⟩
theorem d_X8_isThing {l : Launch} {w : zE} (J : zJ w) {M : zM} {o nt : Nat} {x : Int32} (hk : zk o = 8) (hnt : M.1 o 0 = nI nt) (h10 : nt ≤ 10) : zCi l w yX8_isThing cX8_isThing 3 (some .boolean) 1 [.ref (w.2.2 o), .long x.toInt64] M (fun r M2 => M2 = M ∧ r = bI (0 ≤ x ∧ x < M.1 o 0)) :=
  zCi_post (fun v M2 q => ⟨q.1, q.2.trans (bI_cg (by rw [i2l_lt, show (0 : Int64) = (0 : Int32).toInt64 from by decide, i2l_le]))⟩) (c_X8_isThing J hk hnt h10)
theorem c_X8_isPerson {l : Launch} {w : zE} (J : zJ w) {M : zM} {o np : Nat} {x : Int32} (hk : zk o = 8) (hnp : M.1 o 1 = nI np) (h8 : np ≤ 8) : zCi l w yX8_isPerson cX8_isPerson 2 (some .boolean) 1 [.ref (w.2.2 o), .int x] M (fun r M2 => M2 = M ∧ r = bI (0 ≤ x ∧ x < M.1 o 1)) := by
  have e : x ≤ M.1 o 1 - 1 ↔ x < M.1 o 1 := by
    have h1 := pk_sub_toInt (a := np) (b := 1) (by omega) (by decide)
    have h2 := nI_toInt (n := np) (by omega)
    rw [hnp, Int32.le_iff_toInt_le, Int32.lt_iff_toInt_lt, h2]
    have h3 : (nI np - 1).toInt = (np : Int) - 1 := h1
    rw [h3]
    omega
  refine zCi_of J zm_X8_isPerson [some (.ref (w.2.2 o)), some (.int x)] (Nat.le_of_ble_eq_true rfl) rfl (fun g hg F X => ?_)
  subst hg
  refine z_iload_n F dX8_isPerson_0 rfl ?_
  refine z_i2l F dX8_isPerson_1 ?_
  refine z_lconst (v := 0) F dX8_isPerson_2 (by decide) ?_
  refine z_aload_n F dX8_isPerson_3 rfl ?_
  refine zg_X8_people F (by with_reducible assumption) fl_X8_76 dX8_isPerson_4 ?_
  refine z_iconst (v := 1) F dX8_isPerson_7 (by decide) ?_
  refine z_isub F dX8_isPerson_8 ?_
  refine z_i2l F dX8_isPerson_9 ?_
  refine z_callSi F (d_X8_in J (a := 0) (b := M.1 o 1 - 1) (by decide) rfl) zm_X8_in zst_X8_in ml_X8_72 rfl rfl (Nat.le_of_ble_eq_true rfl) dX8_isPerson_10 (by omega) (fun r_10 M_10 h_10 => ?_)
  obtain ⟨e_10, rfl⟩ := h_10
  replace e_10 := Eq.symm e_10
  subst e_10
  refine z_zret F X dX8_isPerson_13 (bI_nar _) ?_
  exact ⟨rfl, bI_cg (by rw [e])⟩
theorem c_X8_isSheet {l : Launch} {w : zE} (J : zJ w) {M : zM} {x : Int32} : zCi l w yX8_isSheet cX8_isSheet 1 (some .boolean) 1 [.int x] M (fun r M2 => M2 = M ∧ r = bI (¬ (x < 0 ∨ 3 < x))) := by
  refine zCi_of J zm_X8_isSheet [some (.int x)] (Nat.le_of_ble_eq_true rfl) rfl (fun g hg F X => ?_)
  subst hg
  refine z_iload_n F dX8_isSheet_0 rfl ?_
  refine z_i2l F dX8_isSheet_1 ?_
  refine z_lconst (v := 0) F dX8_isSheet_2 (by decide) ?_
  refine z_ldc2 F dX8_isSheet_3 cl_X8_79 ?_
  refine z_callSi F (d_X8_in J (a := 0) (b := 3) (by decide) (by decide)) zm_X8_in zst_X8_in ml_X8_72 rfl rfl (Nat.le_of_ble_eq_true rfl) dX8_isSheet_6 (by omega) (fun r_6 M_6 h_6 => ?_)
  obtain ⟨e_6, rfl⟩ := h_6
  replace e_6 := Eq.symm e_6
  subst e_6
  refine z_zret F X dX8_isSheet_9 (bI_nar _) ?_
  exact ⟨rfl, bI_cg (by grind)⟩
theorem c_X8_isLane {l : Launch} {w : zE} (J : zJ w) {M : zM} {x : Int32} : zCi l w yX8_isLane cX8_isLane 1 (some .boolean) 1 [.int x] M (fun r M2 => M2 = M ∧ r = bI (¬ (x < 0 ∨ 3 < x))) := by
  refine zCi_of J zm_X8_isLane [some (.int x)] (Nat.le_of_ble_eq_true rfl) rfl (fun g hg F X => ?_)
  subst hg
  refine z_iload_n F dX8_isLane_0 rfl ?_
  refine z_i2l F dX8_isLane_1 ?_
  refine z_lconst (v := 0) F dX8_isLane_2 (by decide) ?_
  refine z_ldc2 F dX8_isLane_3 cl_X8_79 ?_
  refine z_callSi F (d_X8_in J (a := 0) (b := 3) (by decide) (by decide)) zm_X8_in zst_X8_in ml_X8_72 rfl rfl (Nat.le_of_ble_eq_true rfl) dX8_isLane_6 (by omega) (fun r_6 M_6 h_6 => ?_)
  obtain ⟨e_6, rfl⟩ := h_6
  replace e_6 := Eq.symm e_6
  subst e_6
  refine z_zret F X dX8_isLane_9 (bI_nar _) ?_
  exact ⟨rfl, bI_cg (by grind)⟩
/-- the worth of a thing, or of nothing -/
def wrt (th : zF1) (x : Int32) : Int32 := if x < 0 then 0 else th (4 * x.toNatClampNeg + 1)
theorem c_X8_worth {l : Launch} {w : zE} (J : zJ w) {M : zM} {o nt : Nat} {x : Int32} (hk : zk o = 8) (ho : o = 138) (hv : vx nt x) (h10 : nt ≤ 10) : zCi l w yX8_worth cX8_worth 2 (some .int) 0 [.ref (w.2.2 o), .int x] M (fun r M2 => M2 = M ∧ r = wrt (M.1 (o + 1)) x) := by
  obtain ⟨hz1, hz2, hz3, hz4, hz5, hz6, hz7, hz8, hz9, hz10, hz11, hz12, hz13, hz14, hz15⟩ := zn8 ho
  rcases hv with rfl | ⟨j, hj, rfl⟩
  · refine zCi_of J zm_X8_worth [some (.ref (w.2.2 o)), some (.int (-4))] (Nat.le_of_ble_eq_true rfl) rfl (fun g hg F X => ?_)
    subst hg
    refine z_iload_n F dX8_worth_0 rfl ?_
    refine z_if_ge (tgt := 8) F dX8_worth_1 (by decide) (fun h_1 => absurd h_1 (by decide)) (fun h_1 => ?_)
    refine z_iconst (v := 0) F dX8_worth_4 (by decide) ?_
    refine z_goto (tgt := 18) F dX8_worth_5 (by decide) ?_
    refine z_iret F X dX8_worth_18 ?_
    exact ⟨rfl, rfl⟩
  · have hc : (nI j).toNatClampNeg = j := nI_clamp (by omega)
    refine zCi_of J zm_X8_worth [some (.ref (w.2.2 o)), some (.int (nI j))] (Nat.le_of_ble_eq_true rfl) rfl (fun g hg F X => ?_)
    subst hg
    refine z_iload_n F dX8_worth_0 rfl ?_
    refine z_if_ge (tgt := 8) F dX8_worth_1 (by decide) (fun h_1 => ?_) (fun h_1 => absurd h_1 (nI_pos (by omega)))
    refine z_aload_n F dX8_worth_8 rfl ?_
    refine zg_X8_thing F (by with_reducible assumption) fl_X8_7 dX8_worth_9 (fun hk_9 => ?_)
    refine z_iconst (v := 4) F dX8_worth_12 (by decide) ?_
    refine z_iload_n F dX8_worth_13 rfl ?_
    refine z_imul F dX8_worth_14 ?_
    refine z_iconst (v := 1) F dX8_worth_15 (by decide) ?_
    refine z_iadd F dX8_worth_16 ?_
    refine z_iald10n (q := ((4 * j) + 1)) F (by with_reducible assumption) (by first | with_reducible rfl | (simp only [n4, n2, n3, n5, n14, n16, na1, na2, na3, nI_add, nI_1, nI_pred]; done) | (simp only [n4, n2, n3, n5, n14, n16, na1, na2, na3, nI_add, nI_1, nI_pred, Nat.add_assoc, Nat.add_comm, Nat.add_left_comm]; done)) (by rw [hz1]; omega) dX8_worth_17 ?_
    refine z_iret F X dX8_worth_18 ?_
    exact ⟨rfl, by rw [wrt, if_neg (nI_pos (by omega)), hc]⟩
theorem c_X8_feels {l : Launch} {w : zE} (J : zJ w) {M : zM} {o j : Nat} {n k : Int32} (hk : zk o = 8) (ho : o = 138) (hj : j < 10) (kd : kdOK (M.1 (o + 1))) : zCi l w yX8_feels cX8_feels 5 (some .int) 0 [.ref (w.2.2 o), .int (nI j), .int n, .int k] M (fun r M2 => M2 = M ∧ r = feltF (M.1 (o + 1)) j k n) := by
  obtain ⟨hz1, hz2, hz3, hz4, hz5, hz6, hz7, hz8, hz9, hz10, hz11, hz12, hz13, hz14, hz15⟩ := zn8 ho
  have e0 : ∀ y : Int32, y + 0 = y := fun y => Int32.add_zero y
  have kj := kd j hj
  have e3 : ∀ y : Int32, (3 ≤ y ↔ 2 < y) := fun y => by grind
  refine zCi_of J zm_X8_feels [some (.ref (w.2.2 o)), some (.int (nI j)), some (.int n), some (.int k), none] (Nat.le_of_ble_eq_true rfl) rfl (fun g hg F X => ?_)
  subst hg
  unfold feltF at X
  generalize hK : M.1 (o + 1) (4 * j) = K at kj X
  generalize hA : M.1 (o + 1) (4 * j + 2) = A at X
  generalize hB : M.1 (o + 1) (4 * j + 3) = B at X
  have r1 : (K - K / 2 * 2 = 1) ↔ (K = 1 ∨ K = 3) := by rcases kj with q | q | q | q <;> subst q <;> decide
  refine z_aload_n F dX8_feels_0 rfl ?_
  refine zg_X8_thing F (by with_reducible assumption) fl_X8_7 dX8_feels_1 (fun hk_1 => ?_)
  refine z_iconst (v := 4) F dX8_feels_4 (by decide) ?_
  refine z_iload_n F dX8_feels_5 rfl ?_
  refine z_imul F dX8_feels_6 ?_
  refine z_iald10n (q := (4 * j)) F (by with_reducible assumption) (by first | with_reducible rfl | (simp only [n4, n2, n3, n5, n14, n16, na1, na2, na3, nI_add, nI_1, nI_pred]; done) | (simp only [n4, n2, n3, n5, n14, n16, na1, na2, na3, nI_add, nI_1, nI_pred, Nat.add_assoc, Nat.add_comm, Nat.add_left_comm]; done)) (by rw [hz1]; omega) dX8_feels_7 ?_
  try simp only [hK, hA, hB, r1]
  refine z_istore (lv' := [_, _, _, _, _]) F dX8_feels_8 (by decide) rfl rfl ?_
  refine z_iload_n F dX8_feels_10 rfl ?_
  refine z_if_ne (tgt := 39) F dX8_feels_11 (by decide) (fun h_11 => ?_) (fun h_11 => ?_)
  · try simp only [hK, hA, hB, r1] at h_11
    refine z_aload_n F dX8_feels_39 rfl ?_
    refine zg_X8_thing F (by with_reducible assumption) fl_X8_7 dX8_feels_40 (fun hk_40 => ?_)
    refine z_iconst (v := 4) F dX8_feels_43 (by decide) ?_
    refine z_iload_n F dX8_feels_44 rfl ?_
    refine z_imul F dX8_feels_45 ?_
    refine z_iconst (v := 3) F dX8_feels_46 (by decide) ?_
    refine z_iadd F dX8_feels_47 ?_
    refine z_iald10n (q := ((4 * j) + 3)) F (by with_reducible assumption) (by first | with_reducible rfl | (simp only [n4, n2, n3, n5, n14, n16, na1, na2, na3, nI_add, nI_1, nI_pred]; done) | (simp only [n4, n2, n3, n5, n14, n16, na1, na2, na3, nI_add, nI_1, nI_pred, Nat.add_assoc, Nat.add_comm, Nat.add_left_comm]; done)) (by rw [hz1]; omega) dX8_feels_48 ?_
    try simp only [hK, hA, hB, r1]
    refine z_iload F dX8_feels_49 rfl ?_
    refine z_iconst (v := 2) F dX8_feels_51 (by decide) ?_
    refine z_irem F dX8_feels_52 (by decide) ?_
    refine z_iconst (v := 1) F dX8_feels_53 (by decide) ?_
    refine z_ic_ne (tgt := 61) F dX8_feels_54 (by decide) (fun h_54 => ?_) (fun h_54 => ?_)
    · try simp only [hK, hA, hB, r1] at h_54
      refine z_iconst (v := 0) F dX8_feels_61 (by decide) ?_
      refine z_iadd F dX8_feels_62 ?_
      refine z_iload F dX8_feels_63 rfl ?_
      refine z_iconst (v := 3) F dX8_feels_65 (by decide) ?_
      refine z_ic_ne (tgt := 78) F dX8_feels_66 (by decide) (fun h_66 => ?_) (fun h_66 => ?_)
      · try simp only [hK, hA, hB, r1] at h_66
        refine z_iconst (v := 0) F dX8_feels_78 (by decide) ?_
        refine z_iadd F dX8_feels_79 ?_
        refine z_iret F X dX8_feels_80 ?_
        refine ⟨rfl, ?_⟩
        grind
      · try simp only [hK, hA, hB, r1] at h_66
        refine z_iload_n F dX8_feels_69 rfl ?_
        refine z_iconst (v := 2) F dX8_feels_70 (by decide) ?_
        refine z_ic_le (tgt := 78) F dX8_feels_71 (by decide) (fun h_71 => ?_) (fun h_71 => ?_)
        · try simp only [hK, hA, hB, r1] at h_71
          refine z_iconst (v := 0) F dX8_feels_78 (by decide) ?_
          refine z_iadd F dX8_feels_79 ?_
          refine z_iret F X dX8_feels_80 ?_
          refine ⟨rfl, ?_⟩
          grind
        · try simp only [hK, hA, hB, r1] at h_71
          refine z_iconst (v := 5) F dX8_feels_74 (by decide) ?_
          refine z_goto (tgt := 79) F dX8_feels_75 (by decide) ?_
          refine z_iadd F dX8_feels_79 ?_
          refine z_iret F X dX8_feels_80 ?_
          refine ⟨rfl, ?_⟩
          grind
    · try simp only [hK, hA, hB, r1] at h_54
      refine z_iload_n F dX8_feels_57 rfl ?_
      refine z_goto (tgt := 62) F dX8_feels_58 (by decide) ?_
      refine z_iadd F dX8_feels_62 ?_
      refine z_iload F dX8_feels_63 rfl ?_
      refine z_iconst (v := 3) F dX8_feels_65 (by decide) ?_
      refine z_ic_ne (tgt := 78) F dX8_feels_66 (by decide) (fun h_66 => ?_) (fun h_66 => ?_)
      · try simp only [hK, hA, hB, r1] at h_66
        refine z_iconst (v := 0) F dX8_feels_78 (by decide) ?_
        refine z_iadd F dX8_feels_79 ?_
        refine z_iret F X dX8_feels_80 ?_
        refine ⟨rfl, ?_⟩
        grind
      · try simp only [hK, hA, hB, r1] at h_66
        refine z_iload_n F dX8_feels_69 rfl ?_
        refine z_iconst (v := 2) F dX8_feels_70 (by decide) ?_
        refine z_ic_le (tgt := 78) F dX8_feels_71 (by decide) (fun h_71 => ?_) (fun h_71 => ?_)
        · try simp only [hK, hA, hB, r1] at h_71
          refine z_iconst (v := 0) F dX8_feels_78 (by decide) ?_
          refine z_iadd F dX8_feels_79 ?_
          refine z_iret F X dX8_feels_80 ?_
          refine ⟨rfl, ?_⟩
          grind
        · try simp only [hK, hA, hB, r1] at h_71
          refine z_iconst (v := 5) F dX8_feels_74 (by decide) ?_
          refine z_goto (tgt := 79) F dX8_feels_75 (by decide) ?_
          refine z_iadd F dX8_feels_79 ?_
          refine z_iret F X dX8_feels_80 ?_
          refine ⟨rfl, ?_⟩
          grind
  · try simp only [hK, hA, hB, r1] at h_11
    refine z_aload_n F dX8_feels_14 rfl ?_
    refine zg_X8_thing F (by with_reducible assumption) fl_X8_7 dX8_feels_15 (fun hk_15 => ?_)
    refine z_iconst (v := 4) F dX8_feels_18 (by decide) ?_
    refine z_iload_n F dX8_feels_19 rfl ?_
    refine z_imul F dX8_feels_20 ?_
    refine z_iconst (v := 2) F dX8_feels_21 (by decide) ?_
    refine z_iadd F dX8_feels_22 ?_
    refine z_iald10n (q := ((4 * j) + 2)) F (by with_reducible assumption) (by first | with_reducible rfl | (simp only [n4, n2, n3, n5, n14, n16, na1, na2, na3, nI_add, nI_1, nI_pred]; done) | (simp only [n4, n2, n3, n5, n14, n16, na1, na2, na3, nI_add, nI_1, nI_pred, Nat.add_assoc, Nat.add_comm, Nat.add_left_comm]; done)) (by rw [hz1]; omega) dX8_feels_23 ?_
    try simp only [hK, hA, hB, r1]
    refine z_iload F dX8_feels_24 rfl ?_
    refine z_iconst (v := 2) F dX8_feels_26 (by decide) ?_
    refine z_ic_ne (tgt := 36) F dX8_feels_27 (by decide) (fun h_27 => ?_) (fun h_27 => ?_)
    · try simp only [hK, hA, hB, r1] at h_27
      refine z_iconst (v := 0) F dX8_feels_36 (by decide) ?_
      refine z_iadd F dX8_feels_37 ?_
      refine z_iret F X dX8_feels_38 ?_
      refine ⟨rfl, ?_⟩
      grind
    · try simp only [hK, hA, hB, r1] at h_27
      refine z_iconst (v := 2) F dX8_feels_30 (by decide) ?_
      refine z_iload_n F dX8_feels_31 rfl ?_
      refine z_imul F dX8_feels_32 ?_
      refine z_goto (tgt := 37) F dX8_feels_33 (by decide) ?_
      refine z_iadd F dX8_feels_37 ?_
      refine z_iret F X dX8_feels_38 ?_
      refine ⟨rfl, ?_⟩
      grind
