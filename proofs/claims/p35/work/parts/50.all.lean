section
theorem n4 (j : Nat) : (4 : Int32) * nI j = nI (4 * j) := pk_mul 4 j
theorem n2 (j : Nat) : (2 : Int32) * nI j = nI (2 * j) := pk_mul 2 j
theorem n3 (j : Nat) : (3 : Int32) * nI j = nI (3 * j) := pk_mul 3 j
theorem n14 (j : Nat) : (14 : Int32) * nI j = nI (14 * j) := pk_mul 14 j
theorem n16 (j : Nat) : (16 : Int32) * nI j = nI (16 * j) := pk_mul 16 j
theorem n5 (j : Nat) : (5 : Int32) + nI j = nI (5 + j) := nI_add 5 j
theorem na1 (j : Nat) : nI j + 1 = nI (j + 1) := nI_add j 1
theorem na2 (j : Nat) : nI j + 2 = nI (j + 2) := nI_add j 2
theorem na3 (j : Nat) : nI j + 3 = nI (j + 3) := nI_add j 3
section ZN
variable {w : zE} {g : zG} {own : String} {cc : ByteArray} {nL D pc : Nat} {lv : List (Option Value)} {st : List Value} {M : zM}
theorem zn_lt31 (i : Nat) : zn i < 2 ^ 31 := by have := zn_le i; omega
theorem z_iald10n {i q : Nat} {x : Int32} (F : zF w g own cc nL D) (hk : zk i = 10) (hx : x = nI q) (hb : q < zn i) (hd : decode cc pc = .ok (.iaload, 1)) (k : ZW w g nL (pc + 1) lv (.int (M.1 i q) :: st) M) : ZW w g nL pc lv (.int x :: .ref (w.2.2 i) :: st) M := by
  subst hx
  refine z_iald10 F hk (vp_in_nI hb (zn_lt31 i)) hd ?_
  rw [nI_clamp (by have := zn_lt31 i; omega)]
  exact k
theorem z_iast10n {i q : Nat} {x v : Int32} (F : zF w g own cc nL D) (hk : zk i = 10) (hx : x = nI q) (hb : q < zn i) (hd : decode cc pc = .ok (.iastore, 1)) (k : ZW w g nL (pc + 1) lv st (zs M i q v)) : ZW w g nL pc lv (.int v :: .int x :: .ref (w.2.2 i) :: st) M := by
  subst hx
  refine z_iast10 F hk (vp_in_nI hb (zn_lt31 i)) hd ?_
  rw [nI_clamp (by have := zn_lt31 i; omega)]
  exact k
theorem z_lald14n {i q : Nat} {x : Int32} (F : zF w g own cc nL D) (hk : zk i = 14) (hx : x = nI q) (hb : q < zn i) (hd : decode cc pc = .ok (.laload, 1)) (k : ZW w g nL (pc + 1) lv (.long (M.2 i q) :: st) M) : ZW w g nL pc lv (.int x :: .ref (w.2.2 i) :: st) M := by
  subst hx
  refine z_lald14 F hk (vp_in_nI hb (zn_lt31 i)) hd ?_
  rw [nI_clamp (by have := zn_lt31 i; omega)]
  exact k
theorem z_last14n {i q : Nat} {x : Int32} {v : Int64} (F : zF w g own cc nL D) (hk : zk i = 14) (hx : x = nI q) (hb : q < zn i) (hd : decode cc pc = .ok (.lastore, 1)) (k : ZW w g nL (pc + 1) lv st (zy M i q v)) : ZW w g nL pc lv (.long v :: .int x :: .ref (w.2.2 i) :: st) M := by
  subst hx
  refine z_last14 F hk (vp_in_nI hb (zn_lt31 i)) hd ?_
  rw [nI_clamp (by have := zn_lt31 i; omega)]
  exact k
end ZN
/-- lengths of the reference's rows -/
theorem zn8 {o : Nat} (h : o = 138) : zn (o + 1) = 40 ∧ zn (o + 2) = 16 ∧ zn (o + 3) = 14 ∧ zn (o + 4) = 120 ∧ zn (o + 5) = 40 ∧ zn (o + 6) = 24 ∧ zn (o + 7) = 112 ∧ zn (o + 8) = 14 ∧ zn (o + 9) = 8 ∧ zn (o + 10) = 8 ∧ zn (o + 11) = 187 ∧ zn (o + 12) = 4 ∧ zn (o + 13) = 4 ∧ zn (o + 14) = 64 ∧ zn (o + 15) = 16 := by subst h; decide
theorem i2l_le {a b : Int32} : a.toInt64 ≤ b.toInt64 ↔ a ≤ b := by rw [Int64.le_iff_toInt_le, Int32.le_iff_toInt_le, Int32.toInt_toInt64, Int32.toInt_toInt64]
theorem i2l_lt {a b : Int32} : a.toInt64 < b.toInt64 ↔ a < b := by rw [Int64.lt_iff_toInt_lt, Int32.lt_iff_toInt_lt, Int32.toInt_toInt64, Int32.toInt_toInt64]
/-- he or one of the people has what is no thing, or a thing -/
def vx (nt : Nat) (x : Int32) : Prop := x = -4 ∨ ∃ j, j < nt ∧ x = nI j
def tvOK (nt np : Nat) (T : zF1) : Prop := vx nt (T 0) ∧ (∀ p, p < np → vx nt (T (5 + p))) ∧ (T 2 = 0 ∨ T 2 = 1)
def kdOK (th : zF1) : Prop := ∀ j, j < 10 → th (4 * j) = 0 ∨ th (4 * j) = 1 ∨ th (4 * j) = 2 ∨ th (4 * j) = 3
/-- the reference's road in the class's order -/
def rbM (R : zF1) : zF1 := fun k => if k = 0 then R 0 else if k = 1 then R 1 else if k = 2 then R 5 else if k = 3 then R 6 else 0
theorem vx_in {nt : Nat} {x : Int32} (h : vx nt x) (h10 : nt ≤ 10) : (x = -4 ∧ ¬ (0 ≤ x ∧ x < nI nt)) ∨ ∃ j, j < nt ∧ x = nI j ∧ (0 ≤ x ∧ x < nI nt) := by
  rcases h with rfl | ⟨j, hj, rfl⟩
  · exact Or.inl ⟨rfl, fun q => absurd q.1 (by decide)⟩
  · exact Or.inr ⟨j, hj, rfl, nI_pos' (by omega), nI_lt hj (by omega)⟩
end
section
theorem c_X8_in {l : Launch} {w : zE} (J : zJ w) {M : zM} {v lo hi : Int64} : zCi l w yX8_in cX8_in 6 (some .boolean) 0 [.long v, .long lo, .long hi] M (fun r M2 => M2 = M ∧ r = bI (lo ≤ v ∧ v ≤ hi)) := by
  refine zCi_of J zm_X8_in [some (.long v), none, some (.long lo), none, some (.long hi), none] (Nat.le_of_ble_eq_true rfl) rfl (fun g hg F X => ?_)
  subst hg
  refine z_lload_n F dX8_in_0 rfl ?_
  refine z_lload_n F dX8_in_1 rfl ?_
  refine z_lcmp F dX8_in_2 ?_
  refine z_if_lt (tgt := 17) F dX8_in_3 (by decide) (fun h_3 => ?_) (fun h_3 => ?_)
  · try simp only [lg_cmp_ge, lg_cmp_lt, lg_cmp_gt, lg_cmp_le] at h_3
    refine z_iconst (v := 0) F dX8_in_17 (by decide) ?_
    refine z_zret F X dX8_in_18 (by decide) ?_
    refine ⟨rfl, ?_⟩
    first | exact bI_t ⟨h_3, h_10⟩ | exact bI_f (fun q => absurd h_3 (Int64.not_lt.mpr q.1)) | exact bI_f (fun q => absurd h_10 (Int64.not_lt.mpr q.2))
  · try simp only [lg_cmp_ge, lg_cmp_lt, lg_cmp_gt, lg_cmp_le] at h_3
    refine z_lload_n F dX8_in_6 rfl ?_
    refine z_lload F dX8_in_7 rfl ?_
    refine z_lcmp F dX8_in_9 ?_
    refine z_if_gt (tgt := 17) F dX8_in_10 (by decide) (fun h_10 => ?_) (fun h_10 => ?_)
    · try simp only [lg_cmp_ge, lg_cmp_lt, lg_cmp_gt, lg_cmp_le] at h_10
      refine z_iconst (v := 0) F dX8_in_17 (by decide) ?_
      refine z_zret F X dX8_in_18 (by decide) ?_
      refine ⟨rfl, ?_⟩
      first | exact bI_t ⟨h_3, h_10⟩ | exact bI_f (fun q => absurd h_3 (Int64.not_lt.mpr q.1)) | exact bI_f (fun q => absurd h_10 (Int64.not_lt.mpr q.2))
    · try simp only [lg_cmp_ge, lg_cmp_lt, lg_cmp_gt, lg_cmp_le] at h_10
      refine z_iconst (v := 1) F dX8_in_13 (by decide) ?_
      refine z_goto (tgt := 18) F dX8_in_14 (by decide) ?_
      refine z_zret F X dX8_in_18 (by decide) ?_
      refine ⟨rfl, ?_⟩
      first | exact bI_t ⟨h_3, h_10⟩ | exact bI_f (fun q => absurd h_3 (Int64.not_lt.mpr q.1)) | exact bI_f (fun q => absurd h_10 (Int64.not_lt.mpr q.2))
theorem zCi_post {l : Launch} {w : zE} {y : MethodName} {bytes : ByteArray} {maxL d : Nat} {ret : Option FieldType} {args : List Value} {M : zM} {p1 p2 : Int32 → zM → Prop} (h : ∀ v M2, p1 v M2 → p2 v M2) (hC : zCi l w y bytes maxL ret d args M p1) : zCi l w y bytes maxL ret d args M p2 := zCi_mono (fun v M2 q => ⟨M2, zEq.rf _, h v M2 q⟩) hC
theorem zCv_post {l : Launch} {w : zE} {y : MethodName} {bytes : ByteArray} {maxL d : Nat} {args : List Value} {M : zM} {p1 p2 : zM → Prop} (h : ∀ M2, p1 M2 → p2 M2) (hC : zCv l w y bytes maxL d args M p1) : zCv l w y bytes maxL d args M p2 := zCv_mono (fun M2 q => ⟨M2, zEq.rf _, h M2 q⟩) hC
theorem bI_cg {p q : Prop} [Decidable p] [Decidable q] (h : p ↔ q) : bI p = bI q := by unfold bI; by_cases hp : p <;> simp [hp, h.mp, show q ↔ p from h.symm]
theorem d_X8_in {l : Launch} {w : zE} (J : zJ w) {M : zM} {x a b : Int32} {lo hi : Int64} (ha : a.toInt64 = lo) (hb : b.toInt64 = hi) : zCi l w yX8_in cX8_in 6 (some .boolean) 0 [.long x.toInt64, .long lo, .long hi] M (fun r M2 => M2 = M ∧ r = bI (a ≤ x ∧ x ≤ b)) :=
  zCi_post (fun v M2 q => ⟨q.1, q.2.trans (bI_cg (by rw [← ha, ← hb, i2l_le, i2l_le]))⟩) (c_X8_in J)
theorem c_X8_isThing {l : Launch} {w : zE} (J : zJ w) {M : zM} {o nt : Nat} {v : Int64} (hk : zk o = 8) (hnt : M.1 o 0 = nI nt) (h10 : nt ≤ 10) : zCi l w yX8_isThing cX8_isThing 3 (some .boolean) 1 [.ref (w.2.2 o), .long v] M (fun r M2 => M2 = M ∧ r = bI (0 ≤ v ∧ v < (M.1 o 0).toInt64)) := by
  have e : ∀ v : Int64, v ≤ (M.1 o 0 - 1).toInt64 ↔ v < (M.1 o 0).toInt64 := by
    intro v
    have h1 := pk_sub_toInt (a := nt) (b := 1) (by omega) (by decide)
    have h2 := nI_toInt (n := nt) (by omega)
    rw [hnt, Int64.le_iff_toInt_le, Int64.lt_iff_toInt_lt, Int32.toInt_toInt64, Int32.toInt_toInt64, h2]
    have h3 : (nI nt - 1).toInt = (nt : Int) - 1 := h1
    rw [h3]
    omega
  refine zCi_of J zm_X8_isThing [some (.ref (w.2.2 o)), some (.long v), none] (Nat.le_of_ble_eq_true rfl) rfl (fun g hg F X => ?_)
  subst hg
  refine z_lload_n F dX8_isThing_0 rfl ?_
  refine z_lconst (v := 0) F dX8_isThing_1 (by decide) ?_
  refine z_aload_n F dX8_isThing_2 rfl ?_
  refine zg_X8_things F (by with_reducible assumption) fl_X8_69 dX8_isThing_3 ?_
  refine z_iconst (v := 1) F dX8_isThing_6 (by decide) ?_
  refine z_isub F dX8_isThing_7 ?_
  refine z_i2l F dX8_isThing_8 ?_
  refine z_callSi F (c_X8_in J) zm_X8_in zst_X8_in ml_X8_72 rfl rfl (Nat.le_of_ble_eq_true rfl) dX8_isThing_9 (by omega) (fun r_9 M_9 h_9 => ?_)
  obtain ⟨e_9, rfl⟩ := h_9
  replace e_9 := Eq.symm e_9
  subst e_9
  refine z_zret F X dX8_isThing_12 (bI_nar _) ?_
  exact ⟨rfl, bI_cg (by rw [e])⟩
theorem d_X8_isThing {l : Launch} {w : zE} (J : zJ w) {M : zM} {o nt : Nat} {x : Int32} (hk : zk o = 8) (hnt : M.1 o 0 = nI nt) (h10 : nt ≤ 10) : zCi l w yX8_isThing cX8_isThing 3 (some .boolean) 1 [.ref (w.2.2 o), .long x.toInt64] M (fun r M2 => M2 = M ∧ r = bI (0 ≤ x ∧ x < M.1 o 0)) :=
  zCi_post (fun v M2 q => ⟨q.1, q.2.trans (bI_cg (by rw [i2l_lt, show (0 : Int64) = (0 : Int32).toInt64 from by decide, i2l_le]))⟩) (c_X8_isThing J hk hnt h10)
theorem c_X8_isPerson {l : Launch} {w : zE} (J : zJ w) {M : zM} {o np : Nat} {x : Int32} (hk : zk o = 8) (hnp : M.1 o 1 = nI np) (h8 : np ≤ 8) : zCi l w yX8_isPerson cX8_isPerson 2 (some .boolean) 1 [.ref (w.2.2 o), .int x] M (fun r M2 => M2 = M ∧ r = bI (0 ≤ x ∧ x < M.1 o 1)) := by
  have e : x ≤ M.1 o 1 - 1 ↔ x < M.1 o 1 := by
    have h1 := pk_sub_toInt (a := np) (b := 1) (by omega) (by decide)
    have h2 := nI_toInt (n := np) (by omega)
    rw [hnp, Int32.le_iff_toInt_le, Int32.lt_iff_toInt_lt, h2]
    have h3 : (nI np - 1).toInt = (np : Int) - 1 := h1
    rw [h3]
    omega
  refine zCi_of J zm_X8_isPerson [some (.ref (w.2.2 o)), some (.int x)] (Nat.le_of_ble_eq_true rfl) rfl (fun g hg F X => ?_)
  subst hg
  refine z_iload_n F dX8_isPerson_0 rfl ?_
  refine z_i2l F dX8_isPerson_1 ?_
  refine z_lconst (v := 0) F dX8_isPerson_2 (by decide) ?_
  refine z_aload_n F dX8_isPerson_3 rfl ?_
  refine zg_X8_people F (by with_reducible assumption) fl_X8_76 dX8_isPerson_4 ?_
  refine z_iconst (v := 1) F dX8_isPerson_7 (by decide) ?_
  refine z_isub F dX8_isPerson_8 ?_
  refine z_i2l F dX8_isPerson_9 ?_
  refine z_callSi F (d_X8_in J (a := 0) (b := M.1 o 1 - 1) (by decide) rfl) zm_X8_in zst_X8_in ml_X8_72 rfl rfl (Nat.le_of_ble_eq_true rfl) dX8_isPerson_10 (by omega) (fun r_10 M_10 h_10 => ?_)
  obtain ⟨e_10, rfl⟩ := h_10
  replace e_10 := Eq.symm e_10
  subst e_10
  refine z_zret F X dX8_isPerson_13 (bI_nar _) ?_
  exact ⟨rfl, bI_cg (by rw [e])⟩
theorem c_X8_isSheet {l : Launch} {w : zE} (J : zJ w) {M : zM} {x : Int32} : zCi l w yX8_isSheet cX8_isSheet 1 (some .boolean) 1 [.int x] M (fun r M2 => M2 = M ∧ r = bI (¬ (x < 0 ∨ 3 < x))) := by
  refine zCi_of J zm_X8_isSheet [some (.int x)] (Nat.le_of_ble_eq_true rfl) rfl (fun g hg F X => ?_)
  subst hg
  refine z_iload_n F dX8_isSheet_0 rfl ?_
  refine z_i2l F dX8_isSheet_1 ?_
  refine z_lconst (v := 0) F dX8_isSheet_2 (by decide) ?_
  refine z_ldc2 F dX8_isSheet_3 cl_X8_79 ?_
  refine z_callSi F (d_X8_in J (a := 0) (b := 3) (by decide) (by decide)) zm_X8_in zst_X8_in ml_X8_72 rfl rfl (Nat.le_of_ble_eq_true rfl) dX8_isSheet_6 (by omega) (fun r_6 M_6 h_6 => ?_)
  obtain ⟨e_6, rfl⟩ := h_6
  replace e_6 := Eq.symm e_6
  subst e_6
  refine z_zret F X dX8_isSheet_9 (bI_nar _) ?_
  exact ⟨rfl, bI_cg (by grind)⟩
theorem c_X8_isLane {l : Launch} {w : zE} (J : zJ w) {M : zM} {x : Int32} : zCi l w yX8_isLane cX8_isLane 1 (some .boolean) 1 [.int x] M (fun r M2 => M2 = M ∧ r = bI (¬ (x < 0 ∨ 3 < x))) := by
  refine zCi_of J zm_X8_isLane [some (.int x)] (Nat.le_of_ble_eq_true rfl) rfl (fun g hg F X => ?_)
  subst hg
  refine z_iload_n F dX8_isLane_0 rfl ?_
  refine z_i2l F dX8_isLane_1 ?_
  refine z_lconst (v := 0) F dX8_isLane_2 (by decide) ?_
  refine z_ldc2 F dX8_isLane_3 cl_X8_79 ?_
  refine z_callSi F (d_X8_in J (a := 0) (b := 3) (by decide) (by decide)) zm_X8_in zst_X8_in ml_X8_72 rfl rfl (Nat.le_of_ble_eq_true rfl) dX8_isLane_6 (by omega) (fun r_6 M_6 h_6 => ?_)
  obtain ⟨e_6, rfl⟩ := h_6
  replace e_6 := Eq.symm e_6
  subst e_6
  refine z_zret F X dX8_isLane_9 (bI_nar _) ?_
  exact ⟨rfl, bI_cg (by grind)⟩
/-- the worth of a thing, or of nothing -/
def wrt (th : zF1) (x : Int32) : Int32 := if x < 0 then 0 else th (4 * x.toNatClampNeg + 1)
theorem c_X8_worth {l : Launch} {w : zE} (J : zJ w) {M : zM} {o nt : Nat} {x : Int32} (hk : zk o = 8) (ho : o = 138) (hv : vx nt x) (h10 : nt ≤ 10) : zCi l w yX8_worth cX8_worth 2 (some .int) 0 [.ref (w.2.2 o), .int x] M (fun r M2 => M2 = M ∧ r = wrt (M.1 (o + 1)) x) := by
  obtain ⟨hz1, hz2, hz3, hz4, hz5, hz6, hz7, hz8, hz9, hz10, hz11, hz12, hz13, hz14, hz15⟩ := zn8 ho
  rcases hv with rfl | ⟨j, hj, rfl⟩
  · refine zCi_of J zm_X8_worth [some (.ref (w.2.2 o)), some (.int (-4))] (Nat.le_of_ble_eq_true rfl) rfl (fun g hg F X => ?_)
    subst hg
    refine z_iload_n F dX8_worth_0 rfl ?_
    refine z_if_ge (tgt := 8) F dX8_worth_1 (by decide) (fun h_1 => absurd h_1 (by decide)) (fun h_1 => ?_)
    refine z_iconst (v := 0) F dX8_worth_4 (by decide) ?_
    refine z_goto (tgt := 18) F dX8_worth_5 (by decide) ?_
    refine z_iret F X dX8_worth_18 ?_
    exact ⟨rfl, rfl⟩
  · have hc : (nI j).toNatClampNeg = j := nI_clamp (by omega)
    refine zCi_of J zm_X8_worth [some (.ref (w.2.2 o)), some (.int (nI j))] (Nat.le_of_ble_eq_true rfl) rfl (fun g hg F X => ?_)
    subst hg
    refine z_iload_n F dX8_worth_0 rfl ?_
    refine z_if_ge (tgt := 8) F dX8_worth_1 (by decide) (fun h_1 => ?_) (fun h_1 => absurd h_1 (nI_pos (by omega)))
    refine z_aload_n F dX8_worth_8 rfl ?_
    refine zg_X8_thing F (by with_reducible assumption) fl_X8_7 dX8_worth_9 (fun hk_9 => ?_)
    refine z_iconst (v := 4) F dX8_worth_12 (by decide) ?_
    refine z_iload_n F dX8_worth_13 rfl ?_
    refine z_imul F dX8_worth_14 ?_
    refine z_iconst (v := 1) F dX8_worth_15 (by decide) ?_
    refine z_iadd F dX8_worth_16 ?_
    refine z_iald10n (q := ((4 * j) + 1)) F (by with_reducible assumption) (by first | with_reducible rfl | (simp only [n4, n2, n3, n5, n14, n16, na1, na2, na3, nI_add, nI_1, nI_pred]; done) | (simp only [n4, n2, n3, n5, n14, n16, na1, na2, na3, nI_add, nI_1, nI_pred, Nat.add_assoc, Nat.add_comm, Nat.add_left_comm]; done)) (by rw [hz1]; omega) dX8_worth_17 ?_
    refine z_iret F X dX8_worth_18 ?_
    exact ⟨rfl, by rw [wrt, if_neg (nI_pos (by omega)), hc]⟩
theorem c_X8_feels {l : Launch} {w : zE} (J : zJ w) {M : zM} {o j : Nat} {n k : Int32} (hk : zk o = 8) (ho : o = 138) (hj : j < 10) (kd : kdOK (M.1 (o + 1))) : zCi l w yX8_feels cX8_feels 5 (some .int) 0 [.ref (w.2.2 o), .int (nI j), .int n, .int k] M (fun r M2 => M2 = M ∧ r = feltF (M.1 (o + 1)) j k n) := by
  obtain ⟨hz1, hz2, hz3, hz4, hz5, hz6, hz7, hz8, hz9, hz10, hz11, hz12, hz13, hz14, hz15⟩ := zn8 ho
  have e0 : ∀ y : Int32, y + 0 = y := fun y => Int32.add_zero y
  have kj := kd j hj
  have e3 : ∀ y : Int32, (3 ≤ y ↔ 2 < y) := fun y => by grind
  refine zCi_of J zm_X8_feels [some (.ref (w.2.2 o)), some (.int (nI j)), some (.int n), some (.int k), none] (Nat.le_of_ble_eq_true rfl) rfl (fun g hg F X => ?_)
  subst hg
  unfold feltF at X
  generalize hK : M.1 (o + 1) (4 * j) = K at kj X
  generalize hA : M.1 (o + 1) (4 * j + 2) = A at X
  generalize hB : M.1 (o + 1) (4 * j + 3) = B at X
  have r1 : (K - K / 2 * 2 = 1) ↔ (K = 1 ∨ K = 3) := by rcases kj with q | q | q | q <;> subst q <;> decide
  refine z_aload_n F dX8_feels_0 rfl ?_
  refine zg_X8_thing F (by with_reducible assumption) fl_X8_7 dX8_feels_1 (fun hk_1 => ?_)
  refine z_iconst (v := 4) F dX8_feels_4 (by decide) ?_
  refine z_iload_n F dX8_feels_5 rfl ?_
  refine z_imul F dX8_feels_6 ?_
  refine z_iald10n (q := (4 * j)) F (by with_reducible assumption) (by first | with_reducible rfl | (simp only [n4, n2, n3, n5, n14, n16, na1, na2, na3, nI_add, nI_1, nI_pred]; done) | (simp only [n4, n2, n3, n5, n14, n16, na1, na2, na3, nI_add, nI_1, nI_pred, Nat.add_assoc, Nat.add_comm, Nat.add_left_comm]; done)) (by rw [hz1]; omega) dX8_feels_7 ?_
  try simp only [hK, hA, hB, r1]
  refine z_istore (lv' := [_, _, _, _, _]) F dX8_feels_8 (by decide) rfl rfl ?_
  refine z_iload_n F dX8_feels_10 rfl ?_
  refine z_if_ne (tgt := 39) F dX8_feels_11 (by decide) (fun h_11 => ?_) (fun h_11 => ?_)
  · try simp only [hK, hA, hB, r1] at h_11
    refine z_aload_n F dX8_feels_39 rfl ?_
    refine zg_X8_thing F (by with_reducible assumption) fl_X8_7 dX8_feels_40 (fun hk_40 => ?_)
    refine z_iconst (v := 4) F dX8_feels_43 (by decide) ?_
    refine z_iload_n F dX8_feels_44 rfl ?_
    refine z_imul F dX8_feels_45 ?_
    refine z_iconst (v := 3) F dX8_feels_46 (by decide) ?_
    refine z_iadd F dX8_feels_47 ?_
    refine z_iald10n (q := ((4 * j) + 3)) F (by with_reducible assumption) (by first | with_reducible rfl | (simp only [n4, n2, n3, n5, n14, n16, na1, na2, na3, nI_add, nI_1, nI_pred]; done) | (simp only [n4, n2, n3, n5, n14, n16, na1, na2, na3, nI_add, nI_1, nI_pred, Nat.add_assoc, Nat.add_comm, Nat.add_left_comm]; done)) (by rw [hz1]; omega) dX8_feels_48 ?_
    try simp only [hK, hA, hB, r1]
    refine z_iload F dX8_feels_49 rfl ?_
    refine z_iconst (v := 2) F dX8_feels_51 (by decide) ?_
    refine z_irem F dX8_feels_52 (by decide) ?_
    refine z_iconst (v := 1) F dX8_feels_53 (by decide) ?_
    refine z_ic_ne (tgt := 61) F dX8_feels_54 (by decide) (fun h_54 => ?_) (fun h_54 => ?_)
    · try simp only [hK, hA, hB, r1] at h_54
      refine z_iconst (v := 0) F dX8_feels_61 (by decide) ?_
      refine z_iadd F dX8_feels_62 ?_
      refine z_iload F dX8_feels_63 rfl ?_
      refine z_iconst (v := 3) F dX8_feels_65 (by decide) ?_
      refine z_ic_ne (tgt := 78) F dX8_feels_66 (by decide) (fun h_66 => ?_) (fun h_66 => ?_)
      · try simp only [hK, hA, hB, r1] at h_66
        refine z_iconst (v := 0) F dX8_feels_78 (by decide) ?_
        refine z_iadd F dX8_feels_79 ?_
        refine z_iret F X dX8_feels_80 ?_
        refine ⟨rfl, ?_⟩
        grind
      · try simp only [hK, hA, hB, r1] at h_66
        refine z_iload_n F dX8_feels_69 rfl ?_
        refine z_iconst (v := 2) F dX8_feels_70 (by decide) ?_
        refine z_ic_le (tgt := 78) F dX8_feels_71 (by decide) (fun h_71 => ?_) (fun h_71 => ?_)
        · try simp only [hK, hA, hB, r1] at h_71
          refine z_iconst (v := 0) F dX8_feels_78 (by decide) ?_
          refine z_iadd F dX8_feels_79 ?_
          refine z_iret F X dX8_feels_80 ?_
          refine ⟨rfl, ?_⟩
          grind
        · try simp only [hK, hA, hB, r1] at h_71
          refine z_iconst (v := 5) F dX8_feels_74 (by decide) ?_
          refine z_goto (tgt := 79) F dX8_feels_75 (by decide) ?_
          refine z_iadd F dX8_feels_79 ?_
          refine z_iret F X dX8_feels_80 ?_
          refine ⟨rfl, ?_⟩
          grind
    · try simp only [hK, hA, hB, r1] at h_54
      refine z_iload_n F dX8_feels_57 rfl ?_
      refine z_goto (tgt := 62) F dX8_feels_58 (by decide) ?_
      refine z_iadd F dX8_feels_62 ?_
      refine z_iload F dX8_feels_63 rfl ?_
      refine z_iconst (v := 3) F dX8_feels_65 (by decide) ?_
      refine z_ic_ne (tgt := 78) F dX8_feels_66 (by decide) (fun h_66 => ?_) (fun h_66 => ?_)
      · try simp only [hK, hA, hB, r1] at h_66
        refine z_iconst (v := 0) F dX8_feels_78 (by decide) ?_
        refine z_iadd F dX8_feels_79 ?_
        refine z_iret F X dX8_feels_80 ?_
        refine ⟨rfl, ?_⟩
        grind
      · try simp only [hK, hA, hB, r1] at h_66
        refine z_iload_n F dX8_feels_69 rfl ?_
        refine z_iconst (v := 2) F dX8_feels_70 (by decide) ?_
        refine z_ic_le (tgt := 78) F dX8_feels_71 (by decide) (fun h_71 => ?_) (fun h_71 => ?_)
        · try simp only [hK, hA, hB, r1] at h_71
          refine z_iconst (v := 0) F dX8_feels_78 (by decide) ?_
          refine z_iadd F dX8_feels_79 ?_
          refine z_iret F X dX8_feels_80 ?_
          refine ⟨rfl, ?_⟩
          grind
        · try simp only [hK, hA, hB, r1] at h_71
          refine z_iconst (v := 5) F dX8_feels_74 (by decide) ?_
          refine z_goto (tgt := 79) F dX8_feels_75 (by decide) ?_
          refine z_iadd F dX8_feels_79 ?_
          refine z_iret F X dX8_feels_80 ?_
          refine ⟨rfl, ?_⟩
          grind
  · try simp only [hK, hA, hB, r1] at h_11
    refine z_aload_n F dX8_feels_14 rfl ?_
    refine zg_X8_thing F (by with_reducible assumption) fl_X8_7 dX8_feels_15 (fun hk_15 => ?_)
    refine z_iconst (v := 4) F dX8_feels_18 (by decide) ?_
    refine z_iload_n F dX8_feels_19 rfl ?_
    refine z_imul F dX8_feels_20 ?_
    refine z_iconst (v := 2) F dX8_feels_21 (by decide) ?_
    refine z_iadd F dX8_feels_22 ?_
    refine z_iald10n (q := ((4 * j) + 2)) F (by with_reducible assumption) (by first | with_reducible rfl | (simp only [n4, n2, n3, n5, n14, n16, na1, na2, na3, nI_add, nI_1, nI_pred]; done) | (simp only [n4, n2, n3, n5, n14, n16, na1, na2, na3, nI_add, nI_1, nI_pred, Nat.add_assoc, Nat.add_comm, Nat.add_left_comm]; done)) (by rw [hz1]; omega) dX8_feels_23 ?_
    try simp only [hK, hA, hB, r1]
    refine z_iload F dX8_feels_24 rfl ?_
    refine z_iconst (v := 2) F dX8_feels_26 (by decide) ?_
    refine z_ic_ne (tgt := 36) F dX8_feels_27 (by decide) (fun h_27 => ?_) (fun h_27 => ?_)
    · try simp only [hK, hA, hB, r1] at h_27
      refine z_iconst (v := 0) F dX8_feels_36 (by decide) ?_
      refine z_iadd F dX8_feels_37 ?_
      refine z_iret F X dX8_feels_38 ?_
      refine ⟨rfl, ?_⟩
      grind
    · try simp only [hK, hA, hB, r1] at h_27
      refine z_iconst (v := 2) F dX8_feels_30 (by decide) ?_
      refine z_iload_n F dX8_feels_31 rfl ?_
      refine z_imul F dX8_feels_32 ?_
      refine z_goto (tgt := 37) F dX8_feels_33 (by decide) ?_
      refine z_iadd F dX8_feels_37 ?_
      refine z_iret F X dX8_feels_38 ?_
      refine ⟨rfl, ?_⟩
      grind
end
section
theorem n_in {x : Int32} {n : Nat} (h : 0 ≤ x ∧ x < nI n) (hn : n < 2 ^ 31) : ∃ j, j < n ∧ x = nI j := by
  obtain ⟨j, hj, rfl⟩ := nI_of (Int32.not_lt.mpr h.1)
  exact ⟨j, (nI_ltI hj hn).mp h.2, rfl⟩
/-- who has it, the last one who does -/
def whoR (T : zF1) (x : Int32) : Nat → Int32
  | 0 => if T 0 = x then 8 else -4
  | p + 1 => if T (5 + p) = x then nI p else whoR T x p
theorem c_X8_who {l : Launch} {w : zE} (J : zJ w) {M : zM} {o np : Nat} {x : Int32} (hk : zk o = 8) (ho : o = 138) (hnp : M.1 o 1 = nI np) (h8 : np ≤ 8) : zCi l w yX8_who cX8_who 4 (some .int) 0 [.ref (w.2.2 o), .int x] M (fun r M2 => M2 = M ∧ r = whoR (M.1 (o + 3)) x np) := by
  obtain ⟨hz1, hz2, hz3, hz4, hz5, hz6, hz7, hz8, hz9, hz10, hz11, hz12, hz13, hz14, hz15⟩ := zn8 ho
  refine zCi_of J zm_X8_who [some (.ref (w.2.2 o)), some (.int x), none, none] (Nat.le_of_ble_eq_true rfl) rfl (fun g hg F X => ?_)
  subst hg
  have key : ∀ (j k : Nat), k + j = np → ZW w g 4 20 [some (.ref (w.2.2 o)), some (.int x), some (.int (whoR (M.1 (o + 3)) x k)), some (.int (nI k))] [] M := by
    intro j
    induction j with
    | zero =>
      intro k hkj
      have e : k = np := by omega
      subst e
      refine z_iload_n F dX8_who_20 rfl ?_
      refine z_aload_n F dX8_who_21 rfl ?_
      refine zg_X8_people F (by with_reducible assumption) fl_X8_76 dX8_who_22 ?_
      try simp only [hnp]
      refine z_ic_ge (tgt := 52) F dX8_who_25 (by decide) (fun h_25 => ?_) (fun h_25 => absurd h_25 (nlt (Int32.le_refl _)))
      refine z_iload_n F dX8_who_52 rfl ?_
      refine z_iret F X dX8_who_53 ?_
      exact ⟨rfl, rfl⟩
    | succ j ih =>
      intro k hkj
      refine z_iload_n F dX8_who_20 rfl ?_
      refine z_aload_n F dX8_who_21 rfl ?_
      refine zg_X8_people F (by with_reducible assumption) fl_X8_76 dX8_who_22 ?_
      try simp only [hnp]
      refine z_ic_ge (tgt := 52) F dX8_who_25 (by decide) (fun h_25 => absurd h_25 (nle (nI_lt (by omega) (by omega)))) (fun h_25 => ?_)
      refine z_aload_n F dX8_who_28 rfl ?_
      refine zg_X8_now F (by with_reducible assumption) fl_X8_16 dX8_who_29 (fun hk_29 => ?_)
      refine z_iconst (v := 5) F dX8_who_32 (by decide) ?_
      refine z_iload_n F dX8_who_33 rfl ?_
      refine z_iadd F dX8_who_34 ?_
      refine z_iald10n (q := (5 + k)) F (by with_reducible assumption) (by first | with_reducible rfl | (simp only [n4, n2, n3, n5, n14, n16, na1, na2, na3, nI_add, nI_1, nI_pred]; done) | (simp only [n4, n2, n3, n5, n14, n16, na1, na2, na3, nI_add, nI_1, nI_pred, Nat.add_assoc, Nat.add_comm, Nat.add_left_comm]; done)) (by rw [hz3]; omega) dX8_who_35 ?_
      try simp only [hnp]
      refine z_iload_n F dX8_who_36 rfl ?_
      refine z_ic_ne (tgt := 44) F dX8_who_37 (by decide) (fun h_37 => ?_) (fun h_37 => ?_)
      · try simp only [hnp] at h_37
        refine z_iload_n F dX8_who_44 rfl ?_
        refine z_istore_n (lv' := [_, _, _, _]) F dX8_who_45 (by decide) rfl rfl ?_
        refine z_iincc (c := 1) (lv' := [_, _, _, _]) F dX8_who_46 rfl (by decide) (by decide) rfl rfl ?_
        refine z_goto (tgt := 20) F dX8_who_49 (by decide) ?_
        have k1 := ih (k + 1) (by omega)
        rw [whoR, if_neg h_37, ← nI_1] at k1
        exact k1
      · try simp only [hnp] at h_37
        refine z_iload_n F dX8_who_40 rfl ?_
        refine z_goto (tgt := 45) F dX8_who_41 (by decide) ?_
        refine z_istore_n (lv' := [_, _, _, _]) F dX8_who_45 (by decide) rfl rfl ?_
        refine z_iincc (c := 1) (lv' := [_, _, _, _]) F dX8_who_46 rfl (by decide) (by decide) rfl rfl ?_
        refine z_goto (tgt := 20) F dX8_who_49 (by decide) ?_
        have k1 := ih (k + 1) (by omega)
        rw [whoR, if_pos h_37, ← nI_1] at k1
        exact k1
  refine z_aload_n F dX8_who_0 rfl ?_
  refine zg_X8_now F (by with_reducible assumption) fl_X8_16 dX8_who_1 (fun hk_1 => ?_)
  refine z_iconst (v := 0) F dX8_who_4 (by decide) ?_
  refine z_iald10n (q := 0) F (by with_reducible assumption) (by decide) (by rw [hz3]; omega) dX8_who_5 ?_
  refine z_iload_n F dX8_who_6 rfl ?_
  refine z_ic_ne (tgt := 15) F dX8_who_7 (by decide) (fun h_7 => ?_) (fun h_7 => ?_)
  · refine z_bipush (v := (-4)) F dX8_who_15 (by decide) ?_
    refine z_istore_n (lv' := [_, _, _, _]) F dX8_who_17 (by decide) rfl rfl ?_
    refine z_iconst (v := 0) F dX8_who_18 (by decide) ?_
    refine z_istore_n (lv' := [_, _, _, _]) F dX8_who_19 (by decide) rfl rfl ?_
    have k0 := key np 0 (by omega)
    rw [whoR, if_neg h_7] at k0
    exact k0
  · refine z_bipush (v := 8) F dX8_who_10 (by decide) ?_
    refine z_goto (tgt := 17) F dX8_who_12 (by decide) ?_
    refine z_istore_n (lv' := [_, _, _, _]) F dX8_who_17 (by decide) rfl rfl ?_
    refine z_iconst (v := 0) F dX8_who_18 (by decide) ?_
    refine z_istore_n (lv' := [_, _, _, _]) F dX8_who_19 (by decide) rfl rfl ?_
    have k0 := key np 0 (by omega)
    rw [whoR, if_pos h_7] at k0
    exact k0
theorem c_X8_thingComes {l : Launch} {w : zE} (J : zJ w) {M : zM} {o nt : Nat} {a b c d : Int32} (hk : zk o = 8) (ho : o = 138) (hnt : M.1 o 0 = nI nt) (h10 : nt < 10) : zCv l w yX8_thingComes cX8_thingComes 5 0 [.ref (w.2.2 o), .int a, .int b, .int c, .int d] M (fun M2 => M2 = zs (za M (o + 1) (setF (M.1 (o + 1)) nt a b c d)) o 0 (nI (nt + 1))) := by
  obtain ⟨hz1, hz2, hz3, hz4, hz5, hz6, hz7, hz8, hz9, hz10, hz11, hz12, hz13, hz14, hz15⟩ := zn8 ho
  have e1 : ∀ M q v, (zs M (o + 1) q v).1 o = M.1 o := fun M q v => zs_off _ (by omega)
  refine zCv_of J zm_X8_thingComes [some (.ref (w.2.2 o)), some (.int a), some (.int b), some (.int c), some (.int d)] (Nat.le_of_ble_eq_true rfl) rfl (fun g hg F X => ?_)
  subst hg
  refine z_aload_n F dX8_thingComes_0 rfl ?_
  refine zg_X8_thing F (by with_reducible assumption) fl_X8_7 dX8_thingComes_1 (fun hk_1 => ?_)
  refine z_iconst (v := 4) F dX8_thingComes_4 (by decide) ?_
  refine z_aload_n F dX8_thingComes_5 rfl ?_
  refine zg_X8_things F (by with_reducible assumption) fl_X8_69 dX8_thingComes_6 ?_
  try simp only [e1, hnt]
  refine z_imul F dX8_thingComes_9 ?_
  refine z_iload_n F dX8_thingComes_10 rfl ?_
  refine z_iast10n (q := (4 * nt)) F (by with_reducible assumption) (by first | with_reducible rfl | (simp only [n4, n2, n3, n5, n14, n16, na1, na2, na3, nI_add, nI_1, nI_pred]; done) | (simp only [n4, n2, n3, n5, n14, n16, na1, na2, na3, nI_add, nI_1, nI_pred, Nat.add_assoc, Nat.add_comm, Nat.add_left_comm]; done)) (by rw [hz1]; omega) dX8_thingComes_11 ?_
  refine z_aload_n F dX8_thingComes_12 rfl ?_
  refine zg_X8_thing F (by with_reducible assumption) fl_X8_7 dX8_thingComes_13 (fun hk_13 => ?_)
  refine z_iconst (v := 4) F dX8_thingComes_16 (by decide) ?_
  refine z_aload_n F dX8_thingComes_17 rfl ?_
  refine zg_X8_things F (by with_reducible assumption) fl_X8_69 dX8_thingComes_18 ?_
  try simp only [e1, hnt]
  refine z_imul F dX8_thingComes_21 ?_
  refine z_iconst (v := 1) F dX8_thingComes_22 (by decide) ?_
  refine z_iadd F dX8_thingComes_23 ?_
  refine z_iload_n F dX8_thingComes_24 rfl ?_
  refine z_iast10n (q := ((4 * nt) + 1)) F (by with_reducible assumption) (by first | with_reducible rfl | (simp only [n4, n2, n3, n5, n14, n16, na1, na2, na3, nI_add, nI_1, nI_pred]; done) | (simp only [n4, n2, n3, n5, n14, n16, na1, na2, na3, nI_add, nI_1, nI_pred, Nat.add_assoc, Nat.add_comm, Nat.add_left_comm]; done)) (by rw [hz1]; omega) dX8_thingComes_25 ?_
  refine z_aload_n F dX8_thingComes_26 rfl ?_
  refine zg_X8_thing F (by with_reducible assumption) fl_X8_7 dX8_thingComes_27 (fun hk_27 => ?_)
  refine z_iconst (v := 4) F dX8_thingComes_30 (by decide) ?_
  refine z_aload_n F dX8_thingComes_31 rfl ?_
  refine zg_X8_things F (by with_reducible assumption) fl_X8_69 dX8_thingComes_32 ?_
  try simp only [e1, hnt]
  refine z_imul F dX8_thingComes_35 ?_
  refine z_iconst (v := 2) F dX8_thingComes_36 (by decide) ?_
  refine z_iadd F dX8_thingComes_37 ?_
  refine z_iload_n F dX8_thingComes_38 rfl ?_
  refine z_iast10n (q := ((4 * nt) + 2)) F (by with_reducible assumption) (by first | with_reducible rfl | (simp only [n4, n2, n3, n5, n14, n16, na1, na2, na3, nI_add, nI_1, nI_pred]; done) | (simp only [n4, n2, n3, n5, n14, n16, na1, na2, na3, nI_add, nI_1, nI_pred, Nat.add_assoc, Nat.add_comm, Nat.add_left_comm]; done)) (by rw [hz1]; omega) dX8_thingComes_39 ?_
  refine z_aload_n F dX8_thingComes_40 rfl ?_
  refine zg_X8_thing F (by with_reducible assumption) fl_X8_7 dX8_thingComes_41 (fun hk_41 => ?_)
  refine z_iconst (v := 4) F dX8_thingComes_44 (by decide) ?_
  refine z_aload_n F dX8_thingComes_45 rfl ?_
  refine zg_X8_things F (by with_reducible assumption) fl_X8_69 dX8_thingComes_46 ?_
  try simp only [e1, hnt]
  refine z_imul F dX8_thingComes_49 ?_
  refine z_iconst (v := 3) F dX8_thingComes_50 (by decide) ?_
  refine z_iadd F dX8_thingComes_51 ?_
  refine z_iload F dX8_thingComes_52 rfl ?_
  refine z_iast10n (q := ((4 * nt) + 3)) F (by with_reducible assumption) (by first | with_reducible rfl | (simp only [n4, n2, n3, n5, n14, n16, na1, na2, na3, nI_add, nI_1, nI_pred]; done) | (simp only [n4, n2, n3, n5, n14, n16, na1, na2, na3, nI_add, nI_1, nI_pred, Nat.add_assoc, Nat.add_comm, Nat.add_left_comm]; done)) (by rw [hz1]; omega) dX8_thingComes_54 ?_
  refine z_aload_n F dX8_thingComes_55 rfl ?_
  refine z_dup F dX8_thingComes_56 rfl ?_
  refine zg_X8_things F (by with_reducible assumption) fl_X8_69 dX8_thingComes_57 ?_
  try simp only [e1, hnt]
  refine z_iconst (v := 1) F dX8_thingComes_60 (by decide) ?_
  refine z_iadd F dX8_thingComes_61 ?_
  refine zp_X8_things F (by with_reducible assumption) fl_X8_69 dX8_thingComes_62 ?_
  refine z_vret F X dX8_thingComes_65 ?_
  rw [nI_1]
  unfold setF
  simp only [zs_za, za_at, za_za]
theorem c_X8_thing {l : Launch} {w : zE} (J : zJ w) {M : zM} {o nt : Nat} {a b c d : Int32} (hk : zk o = 8) (ho : o = 138) (hnt : M.1 o 0 = nI nt) (h10 : nt ≤ 10) : zCi l w yX8_thing cX8_thing 5 (some .int) 1 [.ref (w.2.2 o), .int a, .int b, .int c, .int d] M (fun r M2 => (thgBad a b c d ∧ r = -1 ∧ M2 = M) ∨ (¬ thgBad a b c d ∧ nt = 10 ∧ r = -3 ∧ M2 = M) ∨ (¬ thgBad a b c d ∧ nt < 10 ∧ r = nI nt ∧ M2 = zs (zs (za M (o + 1) (setF (M.1 (o + 1)) nt a b c d)) o 0 (nI (nt + 1))) o 20 0)) := by
  have e1 : ∀ M v, (zs (zs M o 0 v) o 20 0).1 o 0 = v := fun M v => by rw [zs_at, va_up_ne _ _ (by decide), zs_at, va_up_self]
  refine zCi_of J zm_X8_thing [some (.ref (w.2.2 o)), some (.int a), some (.int b), some (.int c), some (.int d)] (Nat.le_of_ble_eq_true rfl) rfl (fun g hg F X => ?_)
  subst hg
  refine z_iload_n F dX8_thing_0 rfl ?_
  refine z_i2l F dX8_thing_1 ?_
  refine z_lconst (v := 0) F dX8_thing_2 (by decide) ?_
  refine z_ldc2 F dX8_thing_3 cl_X8_79 ?_
  refine z_callSi F (d_X8_in J (a := 0) (b := 3) (by decide) (by decide)) zm_X8_in zst_X8_in ml_X8_72 rfl rfl (Nat.le_of_ble_eq_true rfl) dX8_thing_6 (by omega) (fun r_6 M_6 h_6 => ?_)
  obtain ⟨e_6, rfl⟩ := h_6
  replace e_6 := Eq.symm e_6
  subst e_6
  refine z_if_eq (tgt := 49) F dX8_thing_9 (by decide) (fun h_9 => ?_) (fun h_9 => ?_)
  · replace h_9 := bI_0.mp h_9
    try simp only [e1, hnt] at h_9
    refine z_iconst (v := (-1)) F dX8_thing_49 (by decide) ?_
    refine z_iret F X dX8_thing_50 ?_
    exact Or.inl ⟨by grind, rfl, rfl⟩
  · replace h_9 := bI_1.mp h_9
    try simp only [e1, hnt] at h_9
    refine z_iload_n F dX8_thing_12 rfl ?_
    refine z_i2l F dX8_thing_13 ?_
    refine z_lconst (v := 0) F dX8_thing_14 (by decide) ?_
    refine z_ldc2 F dX8_thing_15 cl_X8_81 ?_
    refine z_callSi F (d_X8_in J (a := 0) (b := 99) (by decide) (by decide)) zm_X8_in zst_X8_in ml_X8_72 rfl rfl (Nat.le_of_ble_eq_true rfl) dX8_thing_18 (by omega) (fun r_18 M_18 h_18 => ?_)
    obtain ⟨e_18, rfl⟩ := h_18
    replace e_18 := Eq.symm e_18
    subst e_18
    refine z_if_eq (tgt := 49) F dX8_thing_21 (by decide) (fun h_21 => ?_) (fun h_21 => ?_)
    · replace h_21 := bI_0.mp h_21
      try simp only [e1, hnt] at h_21
      refine z_iconst (v := (-1)) F dX8_thing_49 (by decide) ?_
      refine z_iret F X dX8_thing_50 ?_
      exact Or.inl ⟨by grind, rfl, rfl⟩
    · replace h_21 := bI_1.mp h_21
      try simp only [e1, hnt] at h_21
      refine z_iload_n F dX8_thing_24 rfl ?_
      refine z_i2l F dX8_thing_25 ?_
      refine z_lconst (v := 0) F dX8_thing_26 (by decide) ?_
      refine z_ldc2 F dX8_thing_27 cl_X8_83 ?_
      refine z_callSi F (d_X8_in J (a := 0) (b := 30) (by decide) (by decide)) zm_X8_in zst_X8_in ml_X8_72 rfl rfl (Nat.le_of_ble_eq_true rfl) dX8_thing_30 (by omega) (fun r_30 M_30 h_30 => ?_)
      obtain ⟨e_30, rfl⟩ := h_30
      replace e_30 := Eq.symm e_30
      subst e_30
      refine z_if_eq (tgt := 49) F dX8_thing_33 (by decide) (fun h_33 => ?_) (fun h_33 => ?_)
      · replace h_33 := bI_0.mp h_33
        try simp only [e1, hnt] at h_33
        refine z_iconst (v := (-1)) F dX8_thing_49 (by decide) ?_
        refine z_iret F X dX8_thing_50 ?_
        exact Or.inl ⟨by grind, rfl, rfl⟩
      · replace h_33 := bI_1.mp h_33
        try simp only [e1, hnt] at h_33
        refine z_iload F dX8_thing_36 rfl ?_
        refine z_i2l F dX8_thing_38 ?_
        refine z_lconst (v := 0) F dX8_thing_39 (by decide) ?_
        refine z_ldc2 F dX8_thing_40 cl_X8_83 ?_
        refine z_callSi F (d_X8_in J (a := 0) (b := 30) (by decide) (by decide)) zm_X8_in zst_X8_in ml_X8_72 rfl rfl (Nat.le_of_ble_eq_true rfl) dX8_thing_43 (by omega) (fun r_43 M_43 h_43 => ?_)
        obtain ⟨e_43, rfl⟩ := h_43
        replace e_43 := Eq.symm e_43
        subst e_43
        refine z_if_ne (tgt := 51) F dX8_thing_46 (by decide) (fun h_46 => ?_) (fun h_46 => ?_)
        · replace h_46 := bI_1.mp h_46
          try simp only [e1, hnt] at h_46
          refine z_aload_n F dX8_thing_51 rfl ?_
          refine zg_X8_things F (by with_reducible assumption) fl_X8_69 dX8_thing_52 ?_
          try simp only [e1, hnt]
          refine z_bipush (v := 10) F dX8_thing_55 (by decide) ?_
          refine z_ic_ne (tgt := 63) F dX8_thing_57 (by decide) (fun h_57 => ?_) (fun h_57 => ?_)
          · try simp only [e1, hnt] at h_57
            have h10' : nt < 10 := by
              have : nt ≠ 10 := fun e => h_57 (by rw [e]; rfl)
              omega
            refine z_aload_n F dX8_thing_63 rfl ?_
            refine z_iload_n F dX8_thing_64 rfl ?_
            refine z_iload_n F dX8_thing_65 rfl ?_
            refine z_iload_n F dX8_thing_66 rfl ?_
            refine z_iload F dX8_thing_67 rfl ?_
            refine z_callVv F (c_X8_thingComes J hk ho hnt h10') zm_X8_thingComes zv_X8_thingComes ml_X8_85 (by with_reducible assumption) (by decide) rfl rfl rfl (Nat.le_of_ble_eq_true rfl) dX8_thing_69 (by omega) (fun M_69 h_69 => ?_)
            replace h_69 := Eq.symm h_69
            subst h_69
            refine z_aload_n F dX8_thing_72 rfl ?_
            refine z_iconst (v := 0) F dX8_thing_73 (by decide) ?_
            refine zp_X8_undos F (by with_reducible assumption) fl_X8_66 dX8_thing_74 ?_
            refine z_aload_n F dX8_thing_77 rfl ?_
            refine zg_X8_things F (by with_reducible assumption) fl_X8_69 dX8_thing_78 ?_
            try simp only [e1, hnt]
            refine z_iconst (v := 1) F dX8_thing_81 (by decide) ?_
            refine z_isub F dX8_thing_82 ?_
            refine z_iret F X dX8_thing_83 ?_
            rw [nI_pred]
            exact Or.inr (Or.inr ⟨by grind, h10', rfl, rfl⟩)
          · try simp only [e1, hnt] at h_57
            refine z_bipush (v := (-3)) F dX8_thing_60 (by decide) ?_
            refine z_iret F X dX8_thing_62 ?_
            exact Or.inr (Or.inl ⟨by grind, (nI_eq (b := 10) (by omega) (by decide)).mp h_57, rfl, rfl⟩)
        · replace h_46 := bI_0.mp h_46
          try simp only [e1, hnt] at h_46
          refine z_iconst (v := (-1)) F dX8_thing_49 (by decide) ?_
          refine z_iret F X dX8_thing_50 ?_
          exact Or.inl ⟨by grind, rfl, rfl⟩
def ofR (rb th T : zF1) (np : Nat) (x k : Int32) : Int32 := if 0 ≤ x ∧ x < rb 0 then (if k = 0 then th (4 * x.toNatClampNeg) else if k = 1 then th (4 * x.toNatClampNeg + 1) else if k = 2 then th (4 * x.toNatClampNeg + 2) else if k = 3 then th (4 * x.toNatClampNeg + 3) else if k = 4 then whoR T x np else -1) else -1
theorem c_X8_of {l : Launch} {w : zE} (J : zJ w) {M : zM} {o nt np : Nat} {x k : Int32} (hk : zk o = 8) (ho : o = 138) (hnt : M.1 o 0 = nI nt) (h10 : nt ≤ 10) (hnp : M.1 o 1 = nI np) (h8 : np ≤ 8) : zCi l w yX8_of cX8_of 3 (some .int) 2 [.ref (w.2.2 o), .int x, .int k] M (fun r M2 => M2 = M ∧ r = ofR (M.1 o) (M.1 (o + 1)) (M.1 (o + 3)) np x k) := by
  obtain ⟨hz1, hz2, hz3, hz4, hz5, hz6, hz7, hz8, hz9, hz10, hz11, hz12, hz13, hz14, hz15⟩ := zn8 ho
  refine zCi_of J zm_X8_of [some (.ref (w.2.2 o)), some (.int x), some (.int k)] (Nat.le_of_ble_eq_true rfl) rfl (fun g hg F X => ?_)
  subst hg
  refine z_aload_n F dX8_of_0 rfl ?_
  refine z_iload_n F dX8_of_1 rfl ?_
  refine z_i2l F dX8_of_2 ?_
  refine z_callVi F (d_X8_isThing J hk hnt h10) zm_X8_isThing zv_X8_isThing ml_X8_89 (by with_reducible assumption) (by decide) rfl rfl rfl (Nat.le_of_ble_eq_true rfl) dX8_of_3 (by omega) (fun r_3 M_3 h_3 => ?_)
  obtain ⟨e_3, rfl⟩ := h_3
  replace e_3 := Eq.symm e_3
  subst e_3
  refine z_if_eq (tgt := 21) F dX8_of_6 (by decide) (fun h_6 => ?_) (fun h_6 => ?_)
  · replace h_6 := bI_0.mp h_6
    refine z_iconst (v := (-1)) F dX8_of_21 (by decide) ?_
    refine z_iret F X dX8_of_22 ?_
    refine ⟨rfl, ?_⟩
    unfold ofR
    grind
  · replace h_6 := bI_1.mp h_6
    refine z_iload_n F dX8_of_9 rfl ?_
    refine z_i2l F dX8_of_10 ?_
    refine z_lconst (v := 0) F dX8_of_11 (by decide) ?_
    refine z_ldc2 F dX8_of_12 cl_X8_93 ?_
    refine z_callSi F (d_X8_in J (a := 0) (b := 4) (by decide) (by decide)) zm_X8_in zst_X8_in ml_X8_72 rfl rfl (Nat.le_of_ble_eq_true rfl) dX8_of_15 (by omega) (fun r_15 M_15 h_15 => ?_)
    obtain ⟨e_15, rfl⟩ := h_15
    replace e_15 := Eq.symm e_15
    subst e_15
    refine z_if_ne (tgt := 23) F dX8_of_18 (by decide) (fun h_18 => ?_) (fun h_18 => ?_)
    · replace h_18 := bI_1.mp h_18
      refine z_iload_n F dX8_of_23 rfl ?_
      refine z_iconst (v := 4) F dX8_of_24 (by decide) ?_
      refine z_ic_ne (tgt := 36) F dX8_of_25 (by decide) (fun h_25 => ?_) (fun h_25 => ?_)
      · obtain ⟨j, hj, rfl⟩ := n_in (n := nt) (by rw [← hnt]; exact h_6) (by omega)
        obtain ⟨q, hq, rfl⟩ := nI_of2 (n := 4) (M := 4) (by decide) (Int32.not_lt.mpr h_18.1) h_18.2
        have hq4 : q ≠ 4 := fun e => h_25 (by rw [e]; rfl)
        refine z_aload_n F dX8_of_36 rfl ?_
        refine zg_X8_thing F (by with_reducible assumption) fl_X8_7 dX8_of_37 (fun hk_37 => ?_)
        refine z_iconst (v := 4) F dX8_of_40 (by decide) ?_
        refine z_iload_n F dX8_of_41 rfl ?_
        refine z_imul F dX8_of_42 ?_
        refine z_iload_n F dX8_of_43 rfl ?_
        refine z_iadd F dX8_of_44 ?_
        refine z_iald10n (q := ((4 * j) + q)) F (by with_reducible assumption) (by first | with_reducible rfl | (simp only [n4, n2, n3, n5, n14, n16, na1, na2, na3, nI_add, nI_1, nI_pred]; done) | (simp only [n4, n2, n3, n5, n14, n16, na1, na2, na3, nI_add, nI_1, nI_pred, Nat.add_assoc, Nat.add_comm, Nat.add_left_comm]; done)) (by rw [hz1]; omega) dX8_of_45 ?_
        refine z_iret F X dX8_of_46 ?_
        refine ⟨rfl, ?_⟩
        have hc : (nI j).toNatClampNeg = j := nI_clamp (by omega)
        unfold ofR
        rw [if_pos h_6, hc]
        match q, hq, hq4 with
        | 0, _, _ => rfl
        | 1, _, _ => rfl
        | 2, _, _ => rfl
        | 3, _, _ => rfl
        | 4, _, h => exact absurd rfl h
      · refine z_aload_n F dX8_of_28 rfl ?_
        refine z_iload_n F dX8_of_29 rfl ?_
        refine z_callVi F (c_X8_who J hk ho hnp h8) zm_X8_who zv_X8_who ml_X8_95 (by with_reducible assumption) (by decide) rfl rfl rfl (Nat.le_of_ble_eq_true rfl) dX8_of_30 (by omega) (fun r_30 M_30 h_30 => ?_)
        obtain ⟨e_30, rfl⟩ := h_30
        replace e_30 := Eq.symm e_30
        subst e_30
        refine z_goto (tgt := 46) F dX8_of_33 (by decide) ?_
        refine z_iret F X dX8_of_46 ?_
        refine ⟨rfl, ?_⟩
        subst h_25
        unfold ofR
        rw [if_pos h_6]
        rfl
    · replace h_18 := bI_0.mp h_18
      refine z_iconst (v := (-1)) F dX8_of_21 (by decide) ?_
      refine z_iret F X dX8_of_22 ?_
      refine ⟨rfl, ?_⟩
      unfold ofR
      grind
theorem c_X8_felt {l : Launch} {w : zE} (J : zJ w) {M : zM} {o nt : Nat} {x n k : Int32} (hk : zk o = 8) (ho : o = 138) (hnt : M.1 o 0 = nI nt) (h10 : nt ≤ 10) (kd : kdOK (M.1 (o + 1))) : zCi l w yX8_felt cX8_felt 4 (some .int) 2 [.ref (w.2.2 o), .int x, .int n, .int k] M (fun r M2 => M2 = M ∧ r = fltS (M.1 o) (M.1 (o + 1)) x n k) := by
  refine zCi_of J zm_X8_felt [some (.ref (w.2.2 o)), some (.int x), some (.int n), some (.int k)] (Nat.le_of_ble_eq_true rfl) rfl (fun g hg F X => ?_)
  subst hg
  refine z_aload_n F dX8_felt_0 rfl ?_
  refine z_iload_n F dX8_felt_1 rfl ?_
  refine z_i2l F dX8_felt_2 ?_
  refine z_callVi F (d_X8_isThing J hk hnt h10) zm_X8_isThing zv_X8_isThing ml_X8_89 (by with_reducible assumption) (by decide) rfl rfl rfl (Nat.le_of_ble_eq_true rfl) dX8_felt_3 (by omega) (fun r_3 M_3 h_3 => ?_)
  obtain ⟨e_3, rfl⟩ := h_3
  replace e_3 := Eq.symm e_3
  subst e_3
  refine z_if_eq (tgt := 41) F dX8_felt_6 (by decide) (fun h_6 => ?_) (fun h_6 => ?_)
  · replace h_6 := bI_0.mp h_6
    refine z_iconst (v := (-1)) F dX8_felt_41 (by decide) ?_
    refine z_iret F X dX8_felt_42 ?_
    refine ⟨rfl, ?_⟩
    unfold fltS
    grind
  · replace h_6 := bI_1.mp h_6
    refine z_iload_n F dX8_felt_9 rfl ?_
    refine z_i2l F dX8_felt_10 ?_
    refine z_lconst (v := 0) F dX8_felt_11 (by decide) ?_
    refine z_ldc2 F dX8_felt_12 cl_X8_81 ?_
    refine z_callSi F (d_X8_in J (a := 0) (b := 99) (by decide) (by decide)) zm_X8_in zst_X8_in ml_X8_72 rfl rfl (Nat.le_of_ble_eq_true rfl) dX8_felt_15 (by omega) (fun r_15 M_15 h_15 => ?_)
    obtain ⟨e_15, rfl⟩ := h_15
    replace e_15 := Eq.symm e_15
    subst e_15
    refine z_if_eq (tgt := 41) F dX8_felt_18 (by decide) (fun h_18 => ?_) (fun h_18 => ?_)
    · replace h_18 := bI_0.mp h_18
      refine z_iconst (v := (-1)) F dX8_felt_41 (by decide) ?_
      refine z_iret F X dX8_felt_42 ?_
      refine ⟨rfl, ?_⟩
      unfold fltS
      grind
    · replace h_18 := bI_1.mp h_18
      refine z_iload_n F dX8_felt_21 rfl ?_
      refine z_i2l F dX8_felt_22 ?_
      refine z_lconst (v := 0) F dX8_felt_23 (by decide) ?_
      refine z_lconst (v := 1) F dX8_felt_24 (by decide) ?_
      refine z_callSi F (d_X8_in J (a := 0) (b := 1) (by decide) (by decide)) zm_X8_in zst_X8_in ml_X8_72 rfl rfl (Nat.le_of_ble_eq_true rfl) dX8_felt_25 (by omega) (fun r_25 M_25 h_25 => ?_)
      obtain ⟨e_25, rfl⟩ := h_25
      replace e_25 := Eq.symm e_25
      subst e_25
      refine z_if_eq (tgt := 41) F dX8_felt_28 (by decide) (fun h_28 => ?_) (fun h_28 => ?_)
      · replace h_28 := bI_0.mp h_28
        refine z_iconst (v := (-1)) F dX8_felt_41 (by decide) ?_
        refine z_iret F X dX8_felt_42 ?_
        refine ⟨rfl, ?_⟩
        unfold fltS
        grind
      · replace h_28 := bI_1.mp h_28
        obtain ⟨j, hj, rfl⟩ := n_in (n := nt) (by rw [← hnt]; exact h_6) (by omega)
        refine z_aload_n F dX8_felt_31 rfl ?_
        refine z_iload_n F dX8_felt_32 rfl ?_
        refine z_iload_n F dX8_felt_33 rfl ?_
        refine z_iload_n F dX8_felt_34 rfl ?_
        refine z_callVi F (c_X8_feels J hk ho (by omega) kd) zm_X8_feels zv_X8_feels ml_X8_99 (by with_reducible assumption) (by decide) rfl rfl rfl (Nat.le_of_ble_eq_true rfl) dX8_felt_35 (by omega) (fun r_35 M_35 h_35 => ?_)
        obtain ⟨e_35, rfl⟩ := h_35
        replace e_35 := Eq.symm e_35
        subst e_35
        refine z_goto (tgt := 42) F dX8_felt_38 (by decide) ?_
        refine z_iret F X dX8_felt_42 ?_
        refine ⟨rfl, ?_⟩
        have hc : (nI j).toNatClampNeg = j := nI_clamp (by omega)
        unfold fltS
        rw [if_pos ⟨h_6, by grind, by grind⟩, hc]
theorem c_X8_personComes {l : Launch} {w : zE} (J : zJ w) {M : zM} {o np : Nat} {m x g2 : Int32} (hk : zk o = 8) (ho : o = 138) (hnp : M.1 o 1 = nI np) (h8 : np < 8) : zCv l w yX8_personComes cX8_personComes 4 0 [.ref (w.2.2 o), .int m, .int x, .int g2] M (fun M2 => M2 = zs (zs (zs (zs M (o + 2) (2 * np) m) (o + 2) (2 * np + 1) g2) (o + 3) (5 + np) x) o 1 (nI (np + 1))) := by
  obtain ⟨hz1, hz2, hz3, hz4, hz5, hz6, hz7, hz8, hz9, hz10, hz11, hz12, hz13, hz14, hz15⟩ := zn8 ho
  have e1 : ∀ M q v, (zs M (o + 2) q v).1 o = M.1 o := fun M q v => zs_off _ (by omega)
  have e2 : ∀ M q v, (zs M (o + 3) q v).1 o = M.1 o := fun M q v => zs_off _ (by omega)
  refine zCv_of J zm_X8_personComes [some (.ref (w.2.2 o)), some (.int m), some (.int x), some (.int g2)] (Nat.le_of_ble_eq_true rfl) rfl (fun g hg F X => ?_)
  subst hg
  refine z_aload_n F dX8_personComes_0 rfl ?_
  refine zg_X8_person F (by with_reducible assumption) fl_X8_13 dX8_personComes_1 (fun hk_1 => ?_)
  refine z_iconst (v := 2) F dX8_personComes_4 (by decide) ?_
  refine z_aload_n F dX8_personComes_5 rfl ?_
  refine zg_X8_people F (by with_reducible assumption) fl_X8_76 dX8_personComes_6 ?_
  try simp only [e1, e2, hnp]
  refine z_imul F dX8_personComes_9 ?_
  refine z_iload_n F dX8_personComes_10 rfl ?_
  refine z_iast10n (q := (2 * np)) F (by with_reducible assumption) (by first | with_reducible rfl | (simp only [n4, n2, n3, n5, n14, n16, na1, na2, na3, nI_add, nI_1, nI_pred]; done) | (simp only [n4, n2, n3, n5, n14, n16, na1, na2, na3, nI_add, nI_1, nI_pred, Nat.add_assoc, Nat.add_comm, Nat.add_left_comm]; done)) (by rw [hz2]; omega) dX8_personComes_11 ?_
  refine z_aload_n F dX8_personComes_12 rfl ?_
  refine zg_X8_person F (by with_reducible assumption) fl_X8_13 dX8_personComes_13 (fun hk_13 => ?_)
  refine z_iconst (v := 2) F dX8_personComes_16 (by decide) ?_
  refine z_aload_n F dX8_personComes_17 rfl ?_
  refine zg_X8_people F (by with_reducible assumption) fl_X8_76 dX8_personComes_18 ?_
  try simp only [e1, e2, hnp]
  refine z_imul F dX8_personComes_21 ?_
  refine z_iconst (v := 1) F dX8_personComes_22 (by decide) ?_
  refine z_iadd F dX8_personComes_23 ?_
  refine z_iload_n F dX8_personComes_24 rfl ?_
  refine z_iast10n (q := ((2 * np) + 1)) F (by with_reducible assumption) (by first | with_reducible rfl | (simp only [n4, n2, n3, n5, n14, n16, na1, na2, na3, nI_add, nI_1, nI_pred]; done) | (simp only [n4, n2, n3, n5, n14, n16, na1, na2, na3, nI_add, nI_1, nI_pred, Nat.add_assoc, Nat.add_comm, Nat.add_left_comm]; done)) (by rw [hz2]; omega) dX8_personComes_25 ?_
  refine z_aload_n F dX8_personComes_26 rfl ?_
  refine zg_X8_now F (by with_reducible assumption) fl_X8_16 dX8_personComes_27 (fun hk_27 => ?_)
  refine z_iconst (v := 5) F dX8_personComes_30 (by decide) ?_
  refine z_aload_n F dX8_personComes_31 rfl ?_
  refine zg_X8_people F (by with_reducible assumption) fl_X8_76 dX8_personComes_32 ?_
  try simp only [e1, e2, hnp]
  refine z_iadd F dX8_personComes_35 ?_
  refine z_iload_n F dX8_personComes_36 rfl ?_
  refine z_iast10n (q := (5 + np)) F (by with_reducible assumption) (by first | with_reducible rfl | (simp only [n4, n2, n3, n5, n14, n16, na1, na2, na3, nI_add, nI_1, nI_pred]; done) | (simp only [n4, n2, n3, n5, n14, n16, na1, na2, na3, nI_add, nI_1, nI_pred, Nat.add_assoc, Nat.add_comm, Nat.add_left_comm]; done)) (by rw [hz3]; omega) dX8_personComes_37 ?_
  refine z_aload_n F dX8_personComes_38 rfl ?_
  refine z_dup F dX8_personComes_39 rfl ?_
  refine zg_X8_people F (by with_reducible assumption) fl_X8_76 dX8_personComes_40 ?_
  try simp only [e1, e2, hnp]
  refine z_iconst (v := 1) F dX8_personComes_43 (by decide) ?_
  refine z_iadd F dX8_personComes_44 ?_
  refine zp_X8_people F (by with_reducible assumption) fl_X8_76 dX8_personComes_45 ?_
  refine z_vret F X dX8_personComes_48 ?_
  rw [nI_1]
theorem whoL_none {T : zF1} {x : Int32} : ∀ {j k : Nat}, k + j ≤ 8 → (whoL T x j k = -4 ↔ ∀ p, k ≤ p → p < k + j → ¬ T (5 + p) = x) := by
  intro j
  induction j with
  | zero => intro k _; exact ⟨fun _ p h1 h2 => absurd h2 (by omega), fun _ => rfl⟩
  | succ j ih =>
    intro k h
    rw [whoL]
    by_cases e : T (5 + k) = x
    · rw [if_pos e]
      refine ⟨fun q => absurd q ?_, fun q => absurd e (q k (by omega) (by omega))⟩
      exact (by decide : ∀ k, k < 8 → ¬ nI k = -4) k (by omega)
    · rw [if_neg e, ih (by omega)]
      refine ⟨fun q p h1 h2 => ?_, fun q p h1 h2 => q p (by omega) (by omega)⟩
      by_cases e2 : p = k
      · rw [e2]; exact e
      · exact q p (by omega) (by omega)
theorem whoF_none {T : zF1} {x : Int32} {np : Nat} (h : np ≤ 8) : whoF T np x = -4 ↔ ¬ T 0 = x ∧ ∀ p, p < np → ¬ T (5 + p) = x := by
  unfold whoF
  by_cases e : T 0 = x
  · rw [if_pos e]; exact ⟨fun q => absurd q (by decide), fun q => absurd e q.1⟩
  · rw [if_neg e, whoL_none (by omega)]
    exact ⟨fun q => ⟨e, fun p hp => q p (by omega) (by omega)⟩, fun q p _ hp => q.2 p (by omega)⟩
theorem whoR_none' {T : zF1} {x : Int32} : ∀ {np : Nat}, np ≤ 8 → (whoR T x np = -4 ↔ ¬ T 0 = x ∧ ∀ p, p < np → ¬ T (5 + p) = x) := by
  intro np
  induction np with
  | zero =>
    intro _
    rw [whoR]
    by_cases e : T 0 = x
    · rw [if_pos e]; exact ⟨fun q => absurd q (by decide), fun q => absurd e q.1⟩
    · rw [if_neg e]; exact ⟨fun _ => ⟨e, fun p hp => absurd hp (by omega)⟩, fun _ => rfl⟩
  | succ k ih =>
    intro h
    rw [whoR]
    by_cases e : T (5 + k) = x
    · rw [if_pos e]
      refine ⟨fun q => absurd q ?_, fun q => absurd e (q.2 k (by omega))⟩
      exact (by decide : ∀ k, k < 8 → ¬ nI k = -4) k (by omega)
    · rw [if_neg e, ih (by omega)]
      refine ⟨fun q => ⟨q.1, fun p hp => ?_⟩, fun q => ⟨q.1, fun p hp => q.2 p (by omega)⟩⟩
      by_cases e2 : p = k
      · rw [e2]; exact e
      · exact q.2 p (by omega)
theorem whoR_none {T : zF1} {x : Int32} {np : Nat} (h : np ≤ 8) : whoR T x np = -4 ↔ whoF T np x = -4 := by rw [whoR_none' h, whoF_none h]
/-- one of the people has it -/
theorem whoR_per {T : zF1} {x : Int32} : ∀ {np : Nat}, np ≤ 8 → ((0 ≤ whoR T x np ∧ whoR T x np < 8) ↔ ∃ p, p < np ∧ T (5 + p) = x) := by
  intro np
  induction np with
  | zero =>
    intro _
    rw [whoR]
    refine ⟨fun q => ?_, fun ⟨p, hp, _⟩ => absurd hp (by omega)⟩
    by_cases e : T 0 = x
    · rw [if_pos e] at q; exact absurd q.2 (by decide)
    · rw [if_neg e] at q; exact absurd q.1 (by decide)
  | succ k ih =>
    intro h
    rw [whoR]
    by_cases e : T (5 + k) = x
    · rw [if_pos e]
      refine ⟨fun _ => ⟨k, by omega, e⟩, fun _ => (by decide : ∀ k, k < 8 → 0 ≤ nI k ∧ nI k < 8) k (by omega)⟩
    · rw [if_neg e, ih (by omega)]
      refine ⟨fun ⟨p, hp, q⟩ => ⟨p, by omega, q⟩, fun ⟨p, hp, q⟩ => ⟨p, ?_, q⟩⟩
      have : p ≠ k := fun e2 => e (by rw [← e2]; exact q)
      omega
theorem c_X8_person {l : Launch} {w : zE} (J : zJ w) {M : zM} {o nt np : Nat} {m x g2 : Int32} (hk : zk o = 8) (ho : o = 138) (hnt : M.1 o 0 = nI nt) (h10 : nt ≤ 10) (hnp : M.1 o 1 = nI np) (h8 : np ≤ 8) : zCi l w yX8_person cX8_person 4 (some .int) 2 [.ref (w.2.2 o), .int m, .int x, .int g2] M (fun r M2 => (perBad (M.1 o 0) m x g2 ∧ r = -1 ∧ M2 = M) ∨ (¬ perBad (M.1 o 0) m x g2 ∧ perHad (M.1 (o + 3)) np x ∧ r = -2 ∧ M2 = M) ∨ (¬ perBad (M.1 o 0) m x g2 ∧ ¬ perHad (M.1 (o + 3)) np x ∧ np = 8 ∧ r = -3 ∧ M2 = M) ∨ (¬ perBad (M.1 o 0) m x g2 ∧ ¬ perHad (M.1 (o + 3)) np x ∧ np < 8 ∧ r = nI np ∧ M2 = zs (zs (zs (zs (zs M (o + 2) (2 * np) m) (o + 2) (2 * np + 1) g2) (o + 3) (5 + np) x) o 1 (nI (np + 1))) o 20 0)) := by
  have e1 : ∀ M v, (zs (zs M o 1 v) o 20 0).1 o 1 = v := fun M v => by rw [zs_at, va_up_ne _ _ (by decide), zs_at, va_up_self]
  have ew := whoR_none (T := M.1 (o + 3)) (x := x) h8
  refine zCi_of J zm_X8_person [some (.ref (w.2.2 o)), some (.int m), some (.int x), some (.int g2)] (Nat.le_of_ble_eq_true rfl) rfl (fun g hg F X => ?_)
  subst hg
  refine z_iload_n F dX8_person_0 rfl ?_
  refine z_i2l F dX8_person_1 ?_
  refine z_lconst (v := 0) F dX8_person_2 (by decide) ?_
  refine z_ldc2 F dX8_person_3 cl_X8_103 ?_
  refine z_callSi F (d_X8_in J (a := 0) (b := 11) (by decide) (by decide)) zm_X8_in zst_X8_in ml_X8_72 rfl rfl (Nat.le_of_ble_eq_true rfl) dX8_person_6 (by omega) (fun r_6 M_6 h_6 => ?_)
  obtain ⟨e_6, rfl⟩ := h_6
  replace e_6 := Eq.symm e_6
  subst e_6
  refine z_if_eq (tgt := 39) F dX8_person_9 (by decide) (fun h_9 => ?_) (fun h_9 => ?_)
  · replace h_9 := bI_0.mp h_9
    try simp only [e1] at h_9
    refine z_iconst (v := (-1)) F dX8_person_39 (by decide) ?_
    refine z_iret F X dX8_person_40 ?_
    exact Or.inl ⟨by grind, rfl, rfl⟩
  · replace h_9 := bI_1.mp h_9
    try simp only [e1] at h_9
    refine z_iload_n F dX8_person_12 rfl ?_
    refine z_bipush (v := (-4)) F dX8_person_13 (by decide) ?_
    refine z_ic_eq (tgt := 27) F dX8_person_15 (by decide) (fun h_15 => ?_) (fun h_15 => ?_)
    · try simp only [e1] at h_15
      refine z_iload_n F dX8_person_27 rfl ?_
      refine z_i2l F dX8_person_28 ?_
      refine z_lconst (v := 0) F dX8_person_29 (by decide) ?_
      refine z_ldc2 F dX8_person_30 cl_X8_105 ?_
      refine z_callSi F (d_X8_in J (a := 0) (b := 20) (by decide) (by decide)) zm_X8_in zst_X8_in ml_X8_72 rfl rfl (Nat.le_of_ble_eq_true rfl) dX8_person_33 (by omega) (fun r_33 M_33 h_33 => ?_)
      obtain ⟨e_33, rfl⟩ := h_33
      replace e_33 := Eq.symm e_33
      subst e_33
      refine z_if_ne (tgt := 41) F dX8_person_36 (by decide) (fun h_36 => ?_) (fun h_36 => ?_)
      · replace h_36 := bI_1.mp h_36
        try simp only [e1] at h_36
        refine z_iload_n F dX8_person_41 rfl ?_
        refine z_bipush (v := (-4)) F dX8_person_42 (by decide) ?_
        refine z_ic_eq (tgt := 60) F dX8_person_44 (by decide) (fun h_44 => ?_) (fun h_44 => ?_)
        · try simp only [e1] at h_44
          refine z_aload_n F dX8_person_60 rfl ?_
          refine zg_X8_people F (by with_reducible assumption) fl_X8_76 dX8_person_61 ?_
          try simp only [e1]
          refine z_bipush (v := 8) F dX8_person_64 (by decide) ?_
          refine z_ic_ne (tgt := 72) F dX8_person_66 (by decide) (fun h_66 => ?_) (fun h_66 => ?_)
          · try simp only [e1] at h_66
            have h8' : np < 8 := by
              have : np ≠ 8 := fun e => h_66 (by rw [hnp, e]; rfl)
              omega
            refine z_aload_n F dX8_person_72 rfl ?_
            refine z_iload_n F dX8_person_73 rfl ?_
            refine z_iload_n F dX8_person_74 rfl ?_
            refine z_iload_n F dX8_person_75 rfl ?_
            refine z_callVv F (c_X8_personComes J hk ho hnp h8') zm_X8_personComes zv_X8_personComes ml_X8_107 (by with_reducible assumption) (by decide) rfl rfl rfl (Nat.le_of_ble_eq_true rfl) dX8_person_76 (by omega) (fun M_76 h_76 => ?_)
            replace h_76 := Eq.symm h_76
            subst h_76
            refine z_aload_n F dX8_person_79 rfl ?_
            refine z_iconst (v := 0) F dX8_person_80 (by decide) ?_
            refine zp_X8_undos F (by with_reducible assumption) fl_X8_66 dX8_person_81 ?_
            refine z_aload_n F dX8_person_84 rfl ?_
            refine zg_X8_people F (by with_reducible assumption) fl_X8_76 dX8_person_85 ?_
            try simp only [e1]
            refine z_iconst (v := 1) F dX8_person_88 (by decide) ?_
            refine z_isub F dX8_person_89 ?_
            refine z_iret F X dX8_person_90 ?_
            rw [nI_pred]
            exact Or.inr (Or.inr (Or.inr ⟨by grind, by grind, h8', rfl, rfl⟩))
          · try simp only [e1] at h_66
            refine z_bipush (v := (-3)) F dX8_person_69 (by decide) ?_
            refine z_iret F X dX8_person_71 ?_
            refine Or.inr (Or.inr (Or.inl ⟨by grind, by grind, ?_, rfl, rfl⟩))
            rw [hnp] at h_66
            exact (nI_eq (b := 8) (by omega) (by decide)).mp h_66
        · try simp only [e1] at h_44
          refine z_aload_n F dX8_person_47 rfl ?_
          refine z_iload_n F dX8_person_48 rfl ?_
          refine z_callVi F (c_X8_who J hk ho hnp h8) zm_X8_who zv_X8_who ml_X8_95 (by with_reducible assumption) (by decide) rfl rfl rfl (Nat.le_of_ble_eq_true rfl) dX8_person_49 (by omega) (fun r_49 M_49 h_49 => ?_)
          obtain ⟨e_49, rfl⟩ := h_49
          replace e_49 := Eq.symm e_49
          subst e_49
          refine z_bipush (v := (-4)) F dX8_person_52 (by decide) ?_
          refine z_ic_eq (tgt := 60) F dX8_person_54 (by decide) (fun h_54 => ?_) (fun h_54 => ?_)
          · try simp only [e1] at h_54
            refine z_aload_n F dX8_person_60 rfl ?_
            refine zg_X8_people F (by with_reducible assumption) fl_X8_76 dX8_person_61 ?_
            try simp only [e1]
            refine z_bipush (v := 8) F dX8_person_64 (by decide) ?_
            refine z_ic_ne (tgt := 72) F dX8_person_66 (by decide) (fun h_66 => ?_) (fun h_66 => ?_)
            · try simp only [e1] at h_66
              have h8' : np < 8 := by
                have : np ≠ 8 := fun e => h_66 (by rw [hnp, e]; rfl)
                omega
              refine z_aload_n F dX8_person_72 rfl ?_
              refine z_iload_n F dX8_person_73 rfl ?_
              refine z_iload_n F dX8_person_74 rfl ?_
              refine z_iload_n F dX8_person_75 rfl ?_
              refine z_callVv F (c_X8_personComes J hk ho hnp h8') zm_X8_personComes zv_X8_personComes ml_X8_107 (by with_reducible assumption) (by decide) rfl rfl rfl (Nat.le_of_ble_eq_true rfl) dX8_person_76 (by omega) (fun M_76 h_76 => ?_)
              replace h_76 := Eq.symm h_76
              subst h_76
              refine z_aload_n F dX8_person_79 rfl ?_
              refine z_iconst (v := 0) F dX8_person_80 (by decide) ?_
              refine zp_X8_undos F (by with_reducible assumption) fl_X8_66 dX8_person_81 ?_
              refine z_aload_n F dX8_person_84 rfl ?_
              refine zg_X8_people F (by with_reducible assumption) fl_X8_76 dX8_person_85 ?_
              try simp only [e1]
              refine z_iconst (v := 1) F dX8_person_88 (by decide) ?_
              refine z_isub F dX8_person_89 ?_
              refine z_iret F X dX8_person_90 ?_
              rw [nI_pred]
              exact Or.inr (Or.inr (Or.inr ⟨by grind, by grind, h8', rfl, rfl⟩))
            · try simp only [e1] at h_66
              refine z_bipush (v := (-3)) F dX8_person_69 (by decide) ?_
              refine z_iret F X dX8_person_71 ?_
              refine Or.inr (Or.inr (Or.inl ⟨by grind, by grind, ?_, rfl, rfl⟩))
              rw [hnp] at h_66
              exact (nI_eq (b := 8) (by omega) (by decide)).mp h_66
          · try simp only [e1] at h_54
            refine z_bipush (v := (-2)) F dX8_person_57 (by decide) ?_
            refine z_iret F X dX8_person_59 ?_
            exact Or.inr (Or.inl ⟨by grind, by grind, rfl, rfl⟩)
      · replace h_36 := bI_0.mp h_36
        try simp only [e1] at h_36
        refine z_iconst (v := (-1)) F dX8_person_39 (by decide) ?_
        refine z_iret F X dX8_person_40 ?_
        exact Or.inl ⟨by grind, rfl, rfl⟩
    · try simp only [e1] at h_15
      refine z_aload_n F dX8_person_18 rfl ?_
      refine z_iload_n F dX8_person_19 rfl ?_
      refine z_i2l F dX8_person_20 ?_
      refine z_callVi F (d_X8_isThing J hk hnt h10) zm_X8_isThing zv_X8_isThing ml_X8_89 (by with_reducible assumption) (by decide) rfl rfl rfl (Nat.le_of_ble_eq_true rfl) dX8_person_21 (by omega) (fun r_21 M_21 h_21 => ?_)
      obtain ⟨e_21, rfl⟩ := h_21
      replace e_21 := Eq.symm e_21
      subst e_21
      refine z_if_eq (tgt := 39) F dX8_person_24 (by decide) (fun h_24 => ?_) (fun h_24 => ?_)
      · replace h_24 := bI_0.mp h_24
        try simp only [e1] at h_24
        refine z_iconst (v := (-1)) F dX8_person_39 (by decide) ?_
        refine z_iret F X dX8_person_40 ?_
        exact Or.inl ⟨by grind, rfl, rfl⟩
      · replace h_24 := bI_1.mp h_24
        try simp only [e1] at h_24
        refine z_iload_n F dX8_person_27 rfl ?_
        refine z_i2l F dX8_person_28 ?_
        refine z_lconst (v := 0) F dX8_person_29 (by decide) ?_
        refine z_ldc2 F dX8_person_30 cl_X8_105 ?_
        refine z_callSi F (d_X8_in J (a := 0) (b := 20) (by decide) (by decide)) zm_X8_in zst_X8_in ml_X8_72 rfl rfl (Nat.le_of_ble_eq_true rfl) dX8_person_33 (by omega) (fun r_33 M_33 h_33 => ?_)
        obtain ⟨e_33, rfl⟩ := h_33
        replace e_33 := Eq.symm e_33
        subst e_33
        refine z_if_ne (tgt := 41) F dX8_person_36 (by decide) (fun h_36 => ?_) (fun h_36 => ?_)
        · replace h_36 := bI_1.mp h_36
          try simp only [e1] at h_36
          refine z_iload_n F dX8_person_41 rfl ?_
          refine z_bipush (v := (-4)) F dX8_person_42 (by decide) ?_
          refine z_ic_eq (tgt := 60) F dX8_person_44 (by decide) (fun h_44 => ?_) (fun h_44 => ?_)
          · try simp only [e1] at h_44
            refine z_aload_n F dX8_person_60 rfl ?_
            refine zg_X8_people F (by with_reducible assumption) fl_X8_76 dX8_person_61 ?_
            try simp only [e1]
            refine z_bipush (v := 8) F dX8_person_64 (by decide) ?_
            refine z_ic_ne (tgt := 72) F dX8_person_66 (by decide) (fun h_66 => ?_) (fun h_66 => ?_)
            · try simp only [e1] at h_66
              have h8' : np < 8 := by
                have : np ≠ 8 := fun e => h_66 (by rw [hnp, e]; rfl)
                omega
              refine z_aload_n F dX8_person_72 rfl ?_
              refine z_iload_n F dX8_person_73 rfl ?_
              refine z_iload_n F dX8_person_74 rfl ?_
              refine z_iload_n F dX8_person_75 rfl ?_
              refine z_callVv F (c_X8_personComes J hk ho hnp h8') zm_X8_personComes zv_X8_personComes ml_X8_107 (by with_reducible assumption) (by decide) rfl rfl rfl (Nat.le_of_ble_eq_true rfl) dX8_person_76 (by omega) (fun M_76 h_76 => ?_)
              replace h_76 := Eq.symm h_76
              subst h_76
              refine z_aload_n F dX8_person_79 rfl ?_
              refine z_iconst (v := 0) F dX8_person_80 (by decide) ?_
              refine zp_X8_undos F (by with_reducible assumption) fl_X8_66 dX8_person_81 ?_
              refine z_aload_n F dX8_person_84 rfl ?_
              refine zg_X8_people F (by with_reducible assumption) fl_X8_76 dX8_person_85 ?_
              try simp only [e1]
              refine z_iconst (v := 1) F dX8_person_88 (by decide) ?_
              refine z_isub F dX8_person_89 ?_
              refine z_iret F X dX8_person_90 ?_
              rw [nI_pred]
              exact Or.inr (Or.inr (Or.inr ⟨by grind, by grind, h8', rfl, rfl⟩))
            · try simp only [e1] at h_66
              refine z_bipush (v := (-3)) F dX8_person_69 (by decide) ?_
              refine z_iret F X dX8_person_71 ?_
              refine Or.inr (Or.inr (Or.inl ⟨by grind, by grind, ?_, rfl, rfl⟩))
              rw [hnp] at h_66
              exact (nI_eq (b := 8) (by omega) (by decide)).mp h_66
          · try simp only [e1] at h_44
            refine z_aload_n F dX8_person_47 rfl ?_
            refine z_iload_n F dX8_person_48 rfl ?_
            refine z_callVi F (c_X8_who J hk ho hnp h8) zm_X8_who zv_X8_who ml_X8_95 (by with_reducible assumption) (by decide) rfl rfl rfl (Nat.le_of_ble_eq_true rfl) dX8_person_49 (by omega) (fun r_49 M_49 h_49 => ?_)
            obtain ⟨e_49, rfl⟩ := h_49
            replace e_49 := Eq.symm e_49
            subst e_49
            refine z_bipush (v := (-4)) F dX8_person_52 (by decide) ?_
            refine z_ic_eq (tgt := 60) F dX8_person_54 (by decide) (fun h_54 => ?_) (fun h_54 => ?_)
            · try simp only [e1] at h_54
              refine z_aload_n F dX8_person_60 rfl ?_
              refine zg_X8_people F (by with_reducible assumption) fl_X8_76 dX8_person_61 ?_
              try simp only [e1]
              refine z_bipush (v := 8) F dX8_person_64 (by decide) ?_
              refine z_ic_ne (tgt := 72) F dX8_person_66 (by decide) (fun h_66 => ?_) (fun h_66 => ?_)
              · try simp only [e1] at h_66
                have h8' : np < 8 := by
                  have : np ≠ 8 := fun e => h_66 (by rw [hnp, e]; rfl)
                  omega
                refine z_aload_n F dX8_person_72 rfl ?_
                refine z_iload_n F dX8_person_73 rfl ?_
                refine z_iload_n F dX8_person_74 rfl ?_
                refine z_iload_n F dX8_person_75 rfl ?_
                refine z_callVv F (c_X8_personComes J hk ho hnp h8') zm_X8_personComes zv_X8_personComes ml_X8_107 (by with_reducible assumption) (by decide) rfl rfl rfl (Nat.le_of_ble_eq_true rfl) dX8_person_76 (by omega) (fun M_76 h_76 => ?_)
                replace h_76 := Eq.symm h_76
                subst h_76
                refine z_aload_n F dX8_person_79 rfl ?_
                refine z_iconst (v := 0) F dX8_person_80 (by decide) ?_
                refine zp_X8_undos F (by with_reducible assumption) fl_X8_66 dX8_person_81 ?_
                refine z_aload_n F dX8_person_84 rfl ?_
                refine zg_X8_people F (by with_reducible assumption) fl_X8_76 dX8_person_85 ?_
                try simp only [e1]
                refine z_iconst (v := 1) F dX8_person_88 (by decide) ?_
                refine z_isub F dX8_person_89 ?_
                refine z_iret F X dX8_person_90 ?_
                rw [nI_pred]
                exact Or.inr (Or.inr (Or.inr ⟨by grind, by grind, h8', rfl, rfl⟩))
              · try simp only [e1] at h_66
                refine z_bipush (v := (-3)) F dX8_person_69 (by decide) ?_
                refine z_iret F X dX8_person_71 ?_
                refine Or.inr (Or.inr (Or.inl ⟨by grind, by grind, ?_, rfl, rfl⟩))
                rw [hnp] at h_66
                exact (nI_eq (b := 8) (by omega) (by decide)).mp h_66
            · try simp only [e1] at h_54
              refine z_bipush (v := (-2)) F dX8_person_57 (by decide) ?_
              refine z_iret F X dX8_person_59 ?_
              exact Or.inr (Or.inl ⟨by grind, by grind, rfl, rfl⟩)
        · replace h_36 := bI_0.mp h_36
          try simp only [e1] at h_36
          refine z_iconst (v := (-1)) F dX8_person_39 (by decide) ?_
          refine z_iret F X dX8_person_40 ?_
          exact Or.inl ⟨by grind, rfl, rfl⟩
end
section
theorem c_X8_told {l : Launch} {w : zE} (J : zJ w) {M : zM} {o np : Nat} {p k : Int32} (hk : zk o = 8) (ho : o = 138) (hnp : M.1 o 1 = nI np) (h8 : np ≤ 8) : zCi l w yX8_told cX8_told 3 (some .int) 2 [.ref (w.2.2 o), .int p, .int k] M (fun r M2 => M2 = M ∧ r = toldS (M.1 o) (M.1 (o + 2)) (M.1 (o + 3)) p k) := by
  obtain ⟨hz1, hz2, hz3, hz4, hz5, hz6, hz7, hz8, hz9, hz10, hz11, hz12, hz13, hz14, hz15⟩ := zn8 ho
  refine zCi_of J zm_X8_told [some (.ref (w.2.2 o)), some (.int p), some (.int k)] (Nat.le_of_ble_eq_true rfl) rfl (fun g hg F X => ?_)
  subst hg
  refine z_aload_n F dX8_told_0 rfl ?_
  refine z_iload_n F dX8_told_1 rfl ?_
  refine z_callVi F (c_X8_isPerson J hk hnp h8) zm_X8_isPerson zv_X8_isPerson ml_X8_111 (by with_reducible assumption) (by decide) rfl rfl rfl (Nat.le_of_ble_eq_true rfl) dX8_told_2 (by omega) (fun r_2 M_2 h_2 => ?_)
  obtain ⟨e_2, rfl⟩ := h_2
  replace e_2 := Eq.symm e_2
  subst e_2
  refine z_if_eq (tgt := 20) F dX8_told_5 (by decide) (fun h_5 => ?_) (fun h_5 => ?_)
  · replace h_5 := bI_0.mp h_5
    refine z_iconst (v := (-1)) F dX8_told_20 (by decide) ?_
    refine z_iret F X dX8_told_21 ?_
    refine ⟨rfl, ?_⟩
    unfold toldS
    grind
  · replace h_5 := bI_1.mp h_5
    refine z_iload_n F dX8_told_8 rfl ?_
    refine z_i2l F dX8_told_9 ?_
    refine z_lconst (v := 0) F dX8_told_10 (by decide) ?_
    refine z_ldc2 F dX8_told_11 cl_X8_115 ?_
    refine z_callSi F (d_X8_in J (a := 0) (b := 2) (by decide) (by decide)) zm_X8_in zst_X8_in ml_X8_72 rfl rfl (Nat.le_of_ble_eq_true rfl) dX8_told_14 (by omega) (fun r_14 M_14 h_14 => ?_)
    obtain ⟨e_14, rfl⟩ := h_14
    replace e_14 := Eq.symm e_14
    subst e_14
    refine z_if_ne (tgt := 22) F dX8_told_17 (by decide) (fun h_17 => ?_) (fun h_17 => ?_)
    · replace h_17 := bI_1.mp h_17
      obtain ⟨j, hj, rfl⟩ := n_in (n := np) (by rw [← hnp]; exact h_5) (by omega)
      have hc : (nI j).toNatClampNeg = j := nI_clamp (by omega)
      refine z_iload_n F dX8_told_22 rfl ?_
      refine z_if_ne (tgt := 37) F dX8_told_23 (by decide) (fun h_23 => ?_) (fun h_23 => ?_)
      · refine z_iload_n F dX8_told_37 rfl ?_
        refine z_iconst (v := 1) F dX8_told_38 (by decide) ?_
        refine z_ic_ne (tgt := 53) F dX8_told_39 (by decide) (fun h_39 => ?_) (fun h_39 => ?_)
        · refine z_aload_n F dX8_told_53 rfl ?_
          refine zg_X8_person F (by with_reducible assumption) fl_X8_13 dX8_told_54 (fun hk_54 => ?_)
          refine z_iconst (v := 2) F dX8_told_57 (by decide) ?_
          refine z_iload_n F dX8_told_58 rfl ?_
          refine z_imul F dX8_told_59 ?_
          refine z_iconst (v := 1) F dX8_told_60 (by decide) ?_
          refine z_iadd F dX8_told_61 ?_
          refine z_iald10n (q := ((2 * j) + 1)) F (by with_reducible assumption) (by first | with_reducible rfl | (simp only [n4, n2, n3, n5, n14, n16, na1, na2, na3, nI_add, nI_1, nI_pred]; done) | (simp only [n4, n2, n3, n5, n14, n16, na1, na2, na3, nI_add, nI_1, nI_pred, Nat.add_assoc, Nat.add_comm, Nat.add_left_comm]; done)) (by rw [hz2]; omega) dX8_told_62 ?_
          refine z_iret F X dX8_told_63 ?_
          refine ⟨rfl, ?_⟩
          unfold toldS
          rw [if_pos h_5, hc]
          grind
        · refine z_aload_n F dX8_told_42 rfl ?_
          refine zg_X8_now F (by with_reducible assumption) fl_X8_16 dX8_told_43 (fun hk_43 => ?_)
          refine z_iconst (v := 5) F dX8_told_46 (by decide) ?_
          refine z_iload_n F dX8_told_47 rfl ?_
          refine z_iadd F dX8_told_48 ?_
          refine z_iald10n (q := (5 + j)) F (by with_reducible assumption) (by first | with_reducible rfl | (simp only [n4, n2, n3, n5, n14, n16, na1, na2, na3, nI_add, nI_1, nI_pred]; done) | (simp only [n4, n2, n3, n5, n14, n16, na1, na2, na3, nI_add, nI_1, nI_pred, Nat.add_assoc, Nat.add_comm, Nat.add_left_comm]; done)) (by rw [hz3]; omega) dX8_told_49 ?_
          refine z_goto (tgt := 63) F dX8_told_50 (by decide) ?_
          refine z_iret F X dX8_told_63 ?_
          refine ⟨rfl, ?_⟩
          unfold toldS
          rw [if_pos h_5, hc]
          grind
      · refine z_aload_n F dX8_told_26 rfl ?_
        refine zg_X8_person F (by with_reducible assumption) fl_X8_13 dX8_told_27 (fun hk_27 => ?_)
        refine z_iconst (v := 2) F dX8_told_30 (by decide) ?_
        refine z_iload_n F dX8_told_31 rfl ?_
        refine z_imul F dX8_told_32 ?_
        refine z_iald10n (q := (2 * j)) F (by with_reducible assumption) (by first | with_reducible rfl | (simp only [n4, n2, n3, n5, n14, n16, na1, na2, na3, nI_add, nI_1, nI_pred]; done) | (simp only [n4, n2, n3, n5, n14, n16, na1, na2, na3, nI_add, nI_1, nI_pred, Nat.add_assoc, Nat.add_comm, Nat.add_left_comm]; done)) (by rw [hz2]; omega) dX8_told_33 ?_
        refine z_goto (tgt := 63) F dX8_told_34 (by decide) ?_
        refine z_iret F X dX8_told_63 ?_
        refine ⟨rfl, ?_⟩
        unfold toldS
        rw [if_pos h_5, hc]
        grind
    · replace h_17 := bI_0.mp h_17
      refine z_iconst (v := (-1)) F dX8_told_20 (by decide) ?_
      refine z_iret F X dX8_told_21 ?_
      refine ⟨rfl, ?_⟩
      unfold toldS
      grind
theorem c_X8_move {l : Launch} {w : zE} (J : zJ w) {M : zM} {o np : Nat} {p m : Int32} (hk : zk o = 8) (ho : o = 138) (hnp : M.1 o 1 = nI np) (h8 : np ≤ 8) : zCi l w yX8_move cX8_move 4 (some .int) 2 [.ref (w.2.2 o), .int p, .int m] M (fun r M2 => ((0 ≤ p ∧ p < M.1 o 1) ∧ ¬ (m < 0 ∨ 11 < m) ∧ r = M.1 (o + 2) (2 * p.toNatClampNeg) ∧ M2 = zs M (o + 2) (2 * p.toNatClampNeg) m) ∨ (¬ ((0 ≤ p ∧ p < M.1 o 1) ∧ ¬ (m < 0 ∨ 11 < m)) ∧ r = -1 ∧ M2 = M)) := by
  obtain ⟨hz1, hz2, hz3, hz4, hz5, hz6, hz7, hz8, hz9, hz10, hz11, hz12, hz13, hz14, hz15⟩ := zn8 ho
  refine zCi_of J zm_X8_move [some (.ref (w.2.2 o)), some (.int p), some (.int m), none] (Nat.le_of_ble_eq_true rfl) rfl (fun g hg F X => ?_)
  subst hg
  refine z_aload_n F dX8_move_0 rfl ?_
  refine z_iload_n F dX8_move_1 rfl ?_
  refine z_callVi F (c_X8_isPerson J hk hnp h8) zm_X8_isPerson zv_X8_isPerson ml_X8_111 (by with_reducible assumption) (by decide) rfl rfl rfl (Nat.le_of_ble_eq_true rfl) dX8_move_2 (by omega) (fun r_2 M_2 h_2 => ?_)
  obtain ⟨e_2, rfl⟩ := h_2
  replace e_2 := Eq.symm e_2
  subst e_2
  refine z_if_eq (tgt := 20) F dX8_move_5 (by decide) (fun h_5 => ?_) (fun h_5 => ?_)
  · replace h_5 := bI_0.mp h_5
    refine z_iconst (v := (-1)) F dX8_move_20 (by decide) ?_
    refine z_iret F X dX8_move_21 ?_
    exact Or.inr ⟨by grind, rfl, rfl⟩
  · replace h_5 := bI_1.mp h_5
    refine z_iload_n F dX8_move_8 rfl ?_
    refine z_i2l F dX8_move_9 ?_
    refine z_lconst (v := 0) F dX8_move_10 (by decide) ?_
    refine z_ldc2 F dX8_move_11 cl_X8_103 ?_
    refine z_callSi F (d_X8_in J (a := 0) (b := 11) (by decide) (by decide)) zm_X8_in zst_X8_in ml_X8_72 rfl rfl (Nat.le_of_ble_eq_true rfl) dX8_move_14 (by omega) (fun r_14 M_14 h_14 => ?_)
    obtain ⟨e_14, rfl⟩ := h_14
    replace e_14 := Eq.symm e_14
    subst e_14
    refine z_if_ne (tgt := 22) F dX8_move_17 (by decide) (fun h_17 => ?_) (fun h_17 => ?_)
    · replace h_17 := bI_1.mp h_17
      obtain ⟨j, hj, rfl⟩ := n_in (n := np) (by rw [← hnp]; exact h_5) (by omega)
      have hc : (nI j).toNatClampNeg = j := nI_clamp (by omega)
      refine z_aload_n F dX8_move_22 rfl ?_
      refine zg_X8_person F (by with_reducible assumption) fl_X8_13 dX8_move_23 (fun hk_23 => ?_)
      refine z_iconst (v := 2) F dX8_move_26 (by decide) ?_
      refine z_iload_n F dX8_move_27 rfl ?_
      refine z_imul F dX8_move_28 ?_
      refine z_iald10n (q := (2 * j)) F (by with_reducible assumption) (by first | with_reducible rfl | (simp only [n4, n2, n3, n5, n14, n16, na1, na2, na3, nI_add, nI_1, nI_pred]; done) | (simp only [n4, n2, n3, n5, n14, n16, na1, na2, na3, nI_add, nI_1, nI_pred, Nat.add_assoc, Nat.add_comm, Nat.add_left_comm]; done)) (by rw [hz2]; omega) dX8_move_29 ?_
      refine z_istore_n (lv' := [_, _, _, _]) F dX8_move_30 (by decide) rfl rfl ?_
      refine z_aload_n F dX8_move_31 rfl ?_
      refine zg_X8_person F (by with_reducible assumption) fl_X8_13 dX8_move_32 (fun hk_32 => ?_)
      refine z_iconst (v := 2) F dX8_move_35 (by decide) ?_
      refine z_iload_n F dX8_move_36 rfl ?_
      refine z_imul F dX8_move_37 ?_
      refine z_iload_n F dX8_move_38 rfl ?_
      refine z_iast10n (q := (2 * j)) F (by with_reducible assumption) (by first | with_reducible rfl | (simp only [n4, n2, n3, n5, n14, n16, na1, na2, na3, nI_add, nI_1, nI_pred]; done) | (simp only [n4, n2, n3, n5, n14, n16, na1, na2, na3, nI_add, nI_1, nI_pred, Nat.add_assoc, Nat.add_comm, Nat.add_left_comm]; done)) (by rw [hz2]; omega) dX8_move_39 ?_
      refine z_iload_n F dX8_move_40 rfl ?_
      refine z_iret F X dX8_move_41 ?_
      rw [hc]
      exact Or.inl ⟨h_5, by grind, rfl, rfl⟩
    · replace h_17 := bI_0.mp h_17
      refine z_iconst (v := (-1)) F dX8_move_20 (by decide) ?_
      refine z_iret F X dX8_move_21 ?_
      exact Or.inr ⟨by grind, rfl, rfl⟩
abbrev takR (T : zF1) (np : Nat) (x : Int32) : Prop := ¬ x = -4 ∧ ∃ p, p < np ∧ T (5 + p) = x
theorem c_X8_take {l : Launch} {w : zE} (J : zJ w) {M : zM} {o nt np : Nat} {x : Int32} (hk : zk o = 8) (ho : o = 138) (hnt : M.1 o 0 = nI nt) (h10 : nt ≤ 10) (hnp : M.1 o 1 = nI np) (h8 : np ≤ 8) : zCi l w yX8_take cX8_take 3 (some .int) 2 [.ref (w.2.2 o), .int x] M (fun r M2 => (takBad (M.1 o 0) x ∧ r = -1 ∧ M2 = M) ∨ (¬ takBad (M.1 o 0) x ∧ takR (M.1 (o + 3)) np x ∧ r = -2 ∧ M2 = M) ∨ (¬ takBad (M.1 o 0) x ∧ ¬ takR (M.1 (o + 3)) np x ∧ r = M.1 (o + 3) 0 ∧ M2 = zs (zs M (o + 3) 0 x) (o + 3) 1 0)) := by
  obtain ⟨hz1, hz2, hz3, hz4, hz5, hz6, hz7, hz8, hz9, hz10, hz11, hz12, hz13, hz14, hz15⟩ := zn8 ho
  have ew := whoR_per (T := M.1 (o + 3)) (x := x) h8
  refine zCi_of J zm_X8_take [some (.ref (w.2.2 o)), some (.int x), none] (Nat.le_of_ble_eq_true rfl) rfl (fun g hg F X => ?_)
  subst hg
  refine z_iload_n F dX8_take_0 rfl ?_
  refine z_bipush (v := (-4)) F dX8_take_1 (by decide) ?_
  refine z_ic_eq (tgt := 17) F dX8_take_3 (by decide) (fun h_3 => ?_) (fun h_3 => ?_)
  · refine z_iload_n F dX8_take_17 rfl ?_
    refine z_bipush (v := (-4)) F dX8_take_18 (by decide) ?_
    refine z_ic_eq (tgt := 44) F dX8_take_20 (by decide) (fun h_20 => ?_) (fun h_20 => ?_)
    · refine z_aload_n F dX8_take_44 rfl ?_
      refine zg_X8_now F (by with_reducible assumption) fl_X8_16 dX8_take_45 (fun hk_45 => ?_)
      refine z_iconst (v := 0) F dX8_take_48 (by decide) ?_
      refine z_iald10n (q := 0) F (by with_reducible assumption) (by decide) (by rw [hz3]; omega) dX8_take_49 ?_
      refine z_istore_n (lv' := [_, _, _]) F dX8_take_50 (by decide) rfl rfl ?_
      refine z_aload_n F dX8_take_51 rfl ?_
      refine zg_X8_now F (by with_reducible assumption) fl_X8_16 dX8_take_52 (fun hk_52 => ?_)
      refine z_iconst (v := 0) F dX8_take_55 (by decide) ?_
      refine z_iload_n F dX8_take_56 rfl ?_
      refine z_iast10n (q := 0) F (by with_reducible assumption) (by decide) (by rw [hz3]; omega) dX8_take_57 ?_
      refine z_aload_n F dX8_take_58 rfl ?_
      refine zg_X8_now F (by with_reducible assumption) fl_X8_16 dX8_take_59 (fun hk_59 => ?_)
      refine z_iconst (v := 1) F dX8_take_62 (by decide) ?_
      refine z_iconst (v := 0) F dX8_take_63 (by decide) ?_
      refine z_iast10n (q := 1) F (by with_reducible assumption) (by decide) (by rw [hz3]; omega) dX8_take_64 ?_
      refine z_iload_n F dX8_take_65 rfl ?_
      refine z_iret F X dX8_take_66 ?_
      refine Or.inr (Or.inr ⟨by grind, fun q => ?_, rfl, rfl⟩)
      have q2 := ew.mpr q.2
      grind
    · refine z_aload_n F dX8_take_23 rfl ?_
      refine z_iload_n F dX8_take_24 rfl ?_
      refine z_callVi F (c_X8_who J hk ho hnp h8) zm_X8_who zv_X8_who ml_X8_95 (by with_reducible assumption) (by decide) rfl rfl rfl (Nat.le_of_ble_eq_true rfl) dX8_take_25 (by omega) (fun r_25 M_25 h_25 => ?_)
      obtain ⟨e_25, rfl⟩ := h_25
      replace e_25 := Eq.symm e_25
      subst e_25
      refine z_if_lt (tgt := 44) F dX8_take_28 (by decide) (fun h_28 => ?_) (fun h_28 => ?_)
      · refine z_aload_n F dX8_take_44 rfl ?_
        refine zg_X8_now F (by with_reducible assumption) fl_X8_16 dX8_take_45 (fun hk_45 => ?_)
        refine z_iconst (v := 0) F dX8_take_48 (by decide) ?_
        refine z_iald10n (q := 0) F (by with_reducible assumption) (by decide) (by rw [hz3]; omega) dX8_take_49 ?_
        refine z_istore_n (lv' := [_, _, _]) F dX8_take_50 (by decide) rfl rfl ?_
        refine z_aload_n F dX8_take_51 rfl ?_
        refine zg_X8_now F (by with_reducible assumption) fl_X8_16 dX8_take_52 (fun hk_52 => ?_)
        refine z_iconst (v := 0) F dX8_take_55 (by decide) ?_
        refine z_iload_n F dX8_take_56 rfl ?_
        refine z_iast10n (q := 0) F (by with_reducible assumption) (by decide) (by rw [hz3]; omega) dX8_take_57 ?_
        refine z_aload_n F dX8_take_58 rfl ?_
        refine zg_X8_now F (by with_reducible assumption) fl_X8_16 dX8_take_59 (fun hk_59 => ?_)
        refine z_iconst (v := 1) F dX8_take_62 (by decide) ?_
        refine z_iconst (v := 0) F dX8_take_63 (by decide) ?_
        refine z_iast10n (q := 1) F (by with_reducible assumption) (by decide) (by rw [hz3]; omega) dX8_take_64 ?_
        refine z_iload_n F dX8_take_65 rfl ?_
        refine z_iret F X dX8_take_66 ?_
        refine Or.inr (Or.inr ⟨by grind, fun q => ?_, rfl, rfl⟩)
        have q2 := ew.mpr q.2
        grind
      · refine z_aload_n F dX8_take_31 rfl ?_
        refine z_iload_n F dX8_take_32 rfl ?_
        refine z_callVi F (c_X8_who J hk ho hnp h8) zm_X8_who zv_X8_who ml_X8_95 (by with_reducible assumption) (by decide) rfl rfl rfl (Nat.le_of_ble_eq_true rfl) dX8_take_33 (by omega) (fun r_33 M_33 h_33 => ?_)
        obtain ⟨e_33, rfl⟩ := h_33
        replace e_33 := Eq.symm e_33
        subst e_33
        refine z_bipush (v := 8) F dX8_take_36 (by decide) ?_
        refine z_ic_ge (tgt := 44) F dX8_take_38 (by decide) (fun h_38 => ?_) (fun h_38 => ?_)
        · refine z_aload_n F dX8_take_44 rfl ?_
          refine zg_X8_now F (by with_reducible assumption) fl_X8_16 dX8_take_45 (fun hk_45 => ?_)
          refine z_iconst (v := 0) F dX8_take_48 (by decide) ?_
          refine z_iald10n (q := 0) F (by with_reducible assumption) (by decide) (by rw [hz3]; omega) dX8_take_49 ?_
          refine z_istore_n (lv' := [_, _, _]) F dX8_take_50 (by decide) rfl rfl ?_
          refine z_aload_n F dX8_take_51 rfl ?_
          refine zg_X8_now F (by with_reducible assumption) fl_X8_16 dX8_take_52 (fun hk_52 => ?_)
          refine z_iconst (v := 0) F dX8_take_55 (by decide) ?_
          refine z_iload_n F dX8_take_56 rfl ?_
          refine z_iast10n (q := 0) F (by with_reducible assumption) (by decide) (by rw [hz3]; omega) dX8_take_57 ?_
          refine z_aload_n F dX8_take_58 rfl ?_
          refine zg_X8_now F (by with_reducible assumption) fl_X8_16 dX8_take_59 (fun hk_59 => ?_)
          refine z_iconst (v := 1) F dX8_take_62 (by decide) ?_
          refine z_iconst (v := 0) F dX8_take_63 (by decide) ?_
          refine z_iast10n (q := 1) F (by with_reducible assumption) (by decide) (by rw [hz3]; omega) dX8_take_64 ?_
          refine z_iload_n F dX8_take_65 rfl ?_
          refine z_iret F X dX8_take_66 ?_
          refine Or.inr (Or.inr ⟨by grind, fun q => ?_, rfl, rfl⟩)
          have q2 := ew.mpr q.2
          grind
        · refine z_bipush (v := (-2)) F dX8_take_41 (by decide) ?_
          refine z_iret F X dX8_take_43 ?_
          exact Or.inr (Or.inl ⟨by grind, ⟨by grind, ew.mp ⟨by grind, by grind⟩⟩, rfl, rfl⟩)
  · refine z_aload_n F dX8_take_6 rfl ?_
    refine z_iload_n F dX8_take_7 rfl ?_
    refine z_i2l F dX8_take_8 ?_
    refine z_callVi F (d_X8_isThing J hk hnt h10) zm_X8_isThing zv_X8_isThing ml_X8_89 (by with_reducible assumption) (by decide) rfl rfl rfl (Nat.le_of_ble_eq_true rfl) dX8_take_9 (by omega) (fun r_9 M_9 h_9 => ?_)
    obtain ⟨e_9, rfl⟩ := h_9
    replace e_9 := Eq.symm e_9
    subst e_9
    refine z_if_ne (tgt := 17) F dX8_take_12 (by decide) (fun h_12 => ?_) (fun h_12 => ?_)
    · replace h_12 := bI_1.mp h_12
      refine z_iload_n F dX8_take_17 rfl ?_
      refine z_bipush (v := (-4)) F dX8_take_18 (by decide) ?_
      refine z_ic_eq (tgt := 44) F dX8_take_20 (by decide) (fun h_20 => ?_) (fun h_20 => ?_)
      · refine z_aload_n F dX8_take_44 rfl ?_
        refine zg_X8_now F (by with_reducible assumption) fl_X8_16 dX8_take_45 (fun hk_45 => ?_)
        refine z_iconst (v := 0) F dX8_take_48 (by decide) ?_
        refine z_iald10n (q := 0) F (by with_reducible assumption) (by decide) (by rw [hz3]; omega) dX8_take_49 ?_
        refine z_istore_n (lv' := [_, _, _]) F dX8_take_50 (by decide) rfl rfl ?_
        refine z_aload_n F dX8_take_51 rfl ?_
        refine zg_X8_now F (by with_reducible assumption) fl_X8_16 dX8_take_52 (fun hk_52 => ?_)
        refine z_iconst (v := 0) F dX8_take_55 (by decide) ?_
        refine z_iload_n F dX8_take_56 rfl ?_
        refine z_iast10n (q := 0) F (by with_reducible assumption) (by decide) (by rw [hz3]; omega) dX8_take_57 ?_
        refine z_aload_n F dX8_take_58 rfl ?_
        refine zg_X8_now F (by with_reducible assumption) fl_X8_16 dX8_take_59 (fun hk_59 => ?_)
        refine z_iconst (v := 1) F dX8_take_62 (by decide) ?_
        refine z_iconst (v := 0) F dX8_take_63 (by decide) ?_
        refine z_iast10n (q := 1) F (by with_reducible assumption) (by decide) (by rw [hz3]; omega) dX8_take_64 ?_
        refine z_iload_n F dX8_take_65 rfl ?_
        refine z_iret F X dX8_take_66 ?_
        refine Or.inr (Or.inr ⟨by grind, fun q => ?_, rfl, rfl⟩)
        have q2 := ew.mpr q.2
        grind
      · refine z_aload_n F dX8_take_23 rfl ?_
        refine z_iload_n F dX8_take_24 rfl ?_
        refine z_callVi F (c_X8_who J hk ho hnp h8) zm_X8_who zv_X8_who ml_X8_95 (by with_reducible assumption) (by decide) rfl rfl rfl (Nat.le_of_ble_eq_true rfl) dX8_take_25 (by omega) (fun r_25 M_25 h_25 => ?_)
        obtain ⟨e_25, rfl⟩ := h_25
        replace e_25 := Eq.symm e_25
        subst e_25
        refine z_if_lt (tgt := 44) F dX8_take_28 (by decide) (fun h_28 => ?_) (fun h_28 => ?_)
        · refine z_aload_n F dX8_take_44 rfl ?_
          refine zg_X8_now F (by with_reducible assumption) fl_X8_16 dX8_take_45 (fun hk_45 => ?_)
          refine z_iconst (v := 0) F dX8_take_48 (by decide) ?_
          refine z_iald10n (q := 0) F (by with_reducible assumption) (by decide) (by rw [hz3]; omega) dX8_take_49 ?_
          refine z_istore_n (lv' := [_, _, _]) F dX8_take_50 (by decide) rfl rfl ?_
          refine z_aload_n F dX8_take_51 rfl ?_
          refine zg_X8_now F (by with_reducible assumption) fl_X8_16 dX8_take_52 (fun hk_52 => ?_)
          refine z_iconst (v := 0) F dX8_take_55 (by decide) ?_
          refine z_iload_n F dX8_take_56 rfl ?_
          refine z_iast10n (q := 0) F (by with_reducible assumption) (by decide) (by rw [hz3]; omega) dX8_take_57 ?_
          refine z_aload_n F dX8_take_58 rfl ?_
          refine zg_X8_now F (by with_reducible assumption) fl_X8_16 dX8_take_59 (fun hk_59 => ?_)
          refine z_iconst (v := 1) F dX8_take_62 (by decide) ?_
          refine z_iconst (v := 0) F dX8_take_63 (by decide) ?_
          refine z_iast10n (q := 1) F (by with_reducible assumption) (by decide) (by rw [hz3]; omega) dX8_take_64 ?_
          refine z_iload_n F dX8_take_65 rfl ?_
          refine z_iret F X dX8_take_66 ?_
          refine Or.inr (Or.inr ⟨by grind, fun q => ?_, rfl, rfl⟩)
          have q2 := ew.mpr q.2
          grind
        · refine z_aload_n F dX8_take_31 rfl ?_
          refine z_iload_n F dX8_take_32 rfl ?_
          refine z_callVi F (c_X8_who J hk ho hnp h8) zm_X8_who zv_X8_who ml_X8_95 (by with_reducible assumption) (by decide) rfl rfl rfl (Nat.le_of_ble_eq_true rfl) dX8_take_33 (by omega) (fun r_33 M_33 h_33 => ?_)
          obtain ⟨e_33, rfl⟩ := h_33
          replace e_33 := Eq.symm e_33
          subst e_33
          refine z_bipush (v := 8) F dX8_take_36 (by decide) ?_
          refine z_ic_ge (tgt := 44) F dX8_take_38 (by decide) (fun h_38 => ?_) (fun h_38 => ?_)
          · refine z_aload_n F dX8_take_44 rfl ?_
            refine zg_X8_now F (by with_reducible assumption) fl_X8_16 dX8_take_45 (fun hk_45 => ?_)
            refine z_iconst (v := 0) F dX8_take_48 (by decide) ?_
            refine z_iald10n (q := 0) F (by with_reducible assumption) (by decide) (by rw [hz3]; omega) dX8_take_49 ?_
            refine z_istore_n (lv' := [_, _, _]) F dX8_take_50 (by decide) rfl rfl ?_
            refine z_aload_n F dX8_take_51 rfl ?_
            refine zg_X8_now F (by with_reducible assumption) fl_X8_16 dX8_take_52 (fun hk_52 => ?_)
            refine z_iconst (v := 0) F dX8_take_55 (by decide) ?_
            refine z_iload_n F dX8_take_56 rfl ?_
            refine z_iast10n (q := 0) F (by with_reducible assumption) (by decide) (by rw [hz3]; omega) dX8_take_57 ?_
            refine z_aload_n F dX8_take_58 rfl ?_
            refine zg_X8_now F (by with_reducible assumption) fl_X8_16 dX8_take_59 (fun hk_59 => ?_)
            refine z_iconst (v := 1) F dX8_take_62 (by decide) ?_
            refine z_iconst (v := 0) F dX8_take_63 (by decide) ?_
            refine z_iast10n (q := 1) F (by with_reducible assumption) (by decide) (by rw [hz3]; omega) dX8_take_64 ?_
            refine z_iload_n F dX8_take_65 rfl ?_
            refine z_iret F X dX8_take_66 ?_
            refine Or.inr (Or.inr ⟨by grind, fun q => ?_, rfl, rfl⟩)
            have q2 := ew.mpr q.2
            grind
          · refine z_bipush (v := (-2)) F dX8_take_41 (by decide) ?_
            refine z_iret F X dX8_take_43 ?_
            exact Or.inr (Or.inl ⟨by grind, ⟨by grind, ew.mp ⟨by grind, by grind⟩⟩, rfl, rfl⟩)
    · replace h_12 := bI_0.mp h_12
      refine z_iconst (v := (-1)) F dX8_take_15 (by decide) ?_
      refine z_iret F X dX8_take_16 ?_
      exact Or.inl ⟨by grind, rfl, rfl⟩
theorem c_X8_count {l : Launch} {w : zE} (J : zJ w) {M : zM} {o : Nat} {k : Int32} (hk : zk o = 8) (ho : o = 138) : zCi l w yX8_count cX8_count 2 (some .int) 0 [.ref (w.2.2 o), .int k] M (fun r M2 => M2 = M ∧ r = cntS (rbM (M.1 o)) (M.1 (o + 3)) (M.1 o 20) k) := by
  obtain ⟨hz1, hz2, hz3, hz4, hz5, hz6, hz7, hz8, hz9, hz10, hz11, hz12, hz13, hz14, hz15⟩ := zn8 ho
  refine zCi_of J zm_X8_count [some (.ref (w.2.2 o)), some (.int k)] (Nat.le_of_ble_eq_true rfl) rfl (fun g hg F X => ?_)
  subst hg
  refine z_iload_n F dX8_count_0 rfl ?_
  refine z_tab10 F dX8_count_1 (tgt0 := 56) (tgt1 := 61) (tgt2 := 66) (tgt3 := 73) (tgt4 := 80) (tgt5 := 87) (tgt6 := 94) (tgt7 := 99) (tgt8 := 104) (tgt9 := 111) (dt := 116) (by decide) (by decide) (by decide) (by decide) (by decide) (by decide) (by decide) (by decide) (by decide) (by decide) (by decide) (fun h_1 => ?_) (fun h_1 => ?_) (fun h_1 => ?_) (fun h_1 => ?_) (fun h_1 => ?_) (fun h_1 => ?_) (fun h_1 => ?_) (fun h_1 => ?_) (fun h_1 => ?_) (fun h_1 => ?_) (fun h_1_0 h_1_1 h_1_2 h_1_3 h_1_4 h_1_5 h_1_6 h_1_7 h_1_8 h_1_9 => ?_)
  · refine z_aload_n F dX8_count_56 rfl ?_
    refine zg_X8_things F (by with_reducible assumption) fl_X8_69 dX8_count_57 ?_
    refine z_iret F X dX8_count_60 ?_
    refine ⟨rfl, ?_⟩
    unfold cntS
    first
      | (subst h_1; rfl)
      | (rw [if_neg h_1_0, if_neg h_1_1, if_neg h_1_2, if_neg h_1_3, if_neg h_1_4, if_neg h_1_5, if_neg h_1_6, if_neg h_1_7, if_neg h_1_8, if_neg h_1_9])
  · refine z_aload_n F dX8_count_61 rfl ?_
    refine zg_X8_people F (by with_reducible assumption) fl_X8_76 dX8_count_62 ?_
    refine z_iret F X dX8_count_65 ?_
    refine ⟨rfl, ?_⟩
    unfold cntS
    first
      | (subst h_1; rfl)
      | (rw [if_neg h_1_0, if_neg h_1_1, if_neg h_1_2, if_neg h_1_3, if_neg h_1_4, if_neg h_1_5, if_neg h_1_6, if_neg h_1_7, if_neg h_1_8, if_neg h_1_9])
  · refine z_aload_n F dX8_count_66 rfl ?_
    refine zg_X8_now F (by with_reducible assumption) fl_X8_16 dX8_count_67 (fun hk_67 => ?_)
    refine z_iconst (v := 3) F dX8_count_70 (by decide) ?_
    refine z_iald10n (q := 3) F (by with_reducible assumption) (by decide) (by rw [hz3]; omega) dX8_count_71 ?_
    refine z_iret F X dX8_count_72 ?_
    refine ⟨rfl, ?_⟩
    unfold cntS
    first
      | (subst h_1; rfl)
      | (rw [if_neg h_1_0, if_neg h_1_1, if_neg h_1_2, if_neg h_1_3, if_neg h_1_4, if_neg h_1_5, if_neg h_1_6, if_neg h_1_7, if_neg h_1_8, if_neg h_1_9])
  · refine z_aload_n F dX8_count_73 rfl ?_
    refine zg_X8_now F (by with_reducible assumption) fl_X8_16 dX8_count_74 (fun hk_74 => ?_)
    refine z_iconst (v := 0) F dX8_count_77 (by decide) ?_
    refine z_iald10n (q := 0) F (by with_reducible assumption) (by decide) (by rw [hz3]; omega) dX8_count_78 ?_
    refine z_iret F X dX8_count_79 ?_
    refine ⟨rfl, ?_⟩
    unfold cntS
    first
      | (subst h_1; rfl)
      | (rw [if_neg h_1_0, if_neg h_1_1, if_neg h_1_2, if_neg h_1_3, if_neg h_1_4, if_neg h_1_5, if_neg h_1_6, if_neg h_1_7, if_neg h_1_8, if_neg h_1_9])
  · refine z_aload_n F dX8_count_80 rfl ?_
    refine zg_X8_now F (by with_reducible assumption) fl_X8_16 dX8_count_81 (fun hk_81 => ?_)
    refine z_iconst (v := 1) F dX8_count_84 (by decide) ?_
    refine z_iald10n (q := 1) F (by with_reducible assumption) (by decide) (by rw [hz3]; omega) dX8_count_85 ?_
    refine z_iret F X dX8_count_86 ?_
    refine ⟨rfl, ?_⟩
    unfold cntS
    first
      | (subst h_1; rfl)
      | (rw [if_neg h_1_0, if_neg h_1_1, if_neg h_1_2, if_neg h_1_3, if_neg h_1_4, if_neg h_1_5, if_neg h_1_6, if_neg h_1_7, if_neg h_1_8, if_neg h_1_9])
  · refine z_aload_n F dX8_count_87 rfl ?_
    refine zg_X8_now F (by with_reducible assumption) fl_X8_16 dX8_count_88 (fun hk_88 => ?_)
    refine z_iconst (v := 2) F dX8_count_91 (by decide) ?_
    refine z_iald10n (q := 2) F (by with_reducible assumption) (by decide) (by rw [hz3]; omega) dX8_count_92 ?_
    refine z_iret F X dX8_count_93 ?_
    refine ⟨rfl, ?_⟩
    unfold cntS
    first
      | (subst h_1; rfl)
      | (rw [if_neg h_1_0, if_neg h_1_1, if_neg h_1_2, if_neg h_1_3, if_neg h_1_4, if_neg h_1_5, if_neg h_1_6, if_neg h_1_7, if_neg h_1_8, if_neg h_1_9])
  · refine z_aload_n F dX8_count_94 rfl ?_
    refine zg_X8_heed F (by with_reducible assumption) fl_X8_60 dX8_count_95 ?_
    refine z_iret F X dX8_count_98 ?_
    refine ⟨rfl, ?_⟩
    unfold cntS
    first
      | (subst h_1; rfl)
      | (rw [if_neg h_1_0, if_neg h_1_1, if_neg h_1_2, if_neg h_1_3, if_neg h_1_4, if_neg h_1_5, if_neg h_1_6, if_neg h_1_7, if_neg h_1_8, if_neg h_1_9])
  · refine z_aload_n F dX8_count_99 rfl ?_
    refine zg_X8_well F (by with_reducible assumption) fl_X8_56 dX8_count_100 ?_
    refine z_iret F X dX8_count_103 ?_
    refine ⟨rfl, ?_⟩
    unfold cntS
    first
      | (subst h_1; rfl)
      | (rw [if_neg h_1_0, if_neg h_1_1, if_neg h_1_2, if_neg h_1_3, if_neg h_1_4, if_neg h_1_5, if_neg h_1_6, if_neg h_1_7, if_neg h_1_8, if_neg h_1_9])
  · refine z_aload_n F dX8_count_104 rfl ?_
    refine zg_X8_now F (by with_reducible assumption) fl_X8_16 dX8_count_105 (fun hk_105 => ?_)
    refine z_iconst (v := 4) F dX8_count_108 (by decide) ?_
    refine z_iald10n (q := 4) F (by with_reducible assumption) (by decide) (by rw [hz3]; omega) dX8_count_109 ?_
    refine z_iret F X dX8_count_110 ?_
    refine ⟨rfl, ?_⟩
    unfold cntS
    first
      | (subst h_1; rfl)
      | (rw [if_neg h_1_0, if_neg h_1_1, if_neg h_1_2, if_neg h_1_3, if_neg h_1_4, if_neg h_1_5, if_neg h_1_6, if_neg h_1_7, if_neg h_1_8, if_neg h_1_9])
  · refine z_aload_n F dX8_count_111 rfl ?_
    refine zg_X8_undos F (by with_reducible assumption) fl_X8_66 dX8_count_112 ?_
    refine z_iret F X dX8_count_115 ?_
    refine ⟨rfl, ?_⟩
    unfold cntS
    first
      | (subst h_1; rfl)
      | (rw [if_neg h_1_0, if_neg h_1_1, if_neg h_1_2, if_neg h_1_3, if_neg h_1_4, if_neg h_1_5, if_neg h_1_6, if_neg h_1_7, if_neg h_1_8, if_neg h_1_9])
  · refine z_iconst (v := (-1)) F dX8_count_116 (by decide) ?_
    refine z_iret F X dX8_count_117 ?_
    refine ⟨rfl, ?_⟩
    unfold cntS
    first
      | (subst h_1; rfl)
      | (rw [if_neg h_1_0, if_neg h_1_1, if_neg h_1_2, if_neg h_1_3, if_neg h_1_4, if_neg h_1_5, if_neg h_1_6, if_neg h_1_7, if_neg h_1_8, if_neg h_1_9])
theorem c_X8_heed {l : Launch} {w : zE} (J : zJ w) {M : zM} {o : Nat} {v : Int32} (hk : zk o = 8) : zCi l w yX8_heed cX8_heed 3 (some .int) 1 [.ref (w.2.2 o), .int v] M (fun r M2 => ((v < 0 ∨ 99 < v) ∧ r = -1 ∧ M2 = M) ∨ (¬ (v < 0 ∨ 99 < v) ∧ r = M.1 o 5 ∧ M2 = zs M o 5 v)) := by
  refine zCi_of J zm_X8_heed [some (.ref (w.2.2 o)), some (.int v), none] (Nat.le_of_ble_eq_true rfl) rfl (fun g hg F X => ?_)
  subst hg
  refine z_iload_n F dX8_heed_0 rfl ?_
  refine z_i2l F dX8_heed_1 ?_
  refine z_lconst (v := 0) F dX8_heed_2 (by decide) ?_
  refine z_ldc2 F dX8_heed_3 cl_X8_81 ?_
  refine z_callSi F (d_X8_in J (a := 0) (b := 99) (by decide) (by decide)) zm_X8_in zst_X8_in ml_X8_72 rfl rfl (Nat.le_of_ble_eq_true rfl) dX8_heed_6 (by omega) (fun r_6 M_6 h_6 => ?_)
  obtain ⟨e_6, rfl⟩ := h_6
  replace e_6 := Eq.symm e_6
  subst e_6
  refine z_if_ne (tgt := 14) F dX8_heed_9 (by decide) (fun h_9 => ?_) (fun h_9 => ?_)
  · replace h_9 := bI_1.mp h_9
    refine z_aload_n F dX8_heed_14 rfl ?_
    refine zg_X8_heed F (by with_reducible assumption) fl_X8_60 dX8_heed_15 ?_
    refine z_istore_n (lv' := [_, _, _]) F dX8_heed_18 (by decide) rfl rfl ?_
    refine z_aload_n F dX8_heed_19 rfl ?_
    refine z_iload_n F dX8_heed_20 rfl ?_
    refine zp_X8_heed F (by with_reducible assumption) fl_X8_60 dX8_heed_21 ?_
    refine z_iload_n F dX8_heed_24 rfl ?_
    refine z_iret F X dX8_heed_25 ?_
    exact Or.inr ⟨by grind, rfl, rfl⟩
  · replace h_9 := bI_0.mp h_9
    refine z_iconst (v := (-1)) F dX8_heed_12 (by decide) ?_
    refine z_iret F X dX8_heed_13 ?_
    exact Or.inl ⟨by grind, rfl, rfl⟩
theorem c_X8_well {l : Launch} {w : zE} (J : zJ w) {M : zM} {o : Nat} {v : Int32} (hk : zk o = 8) : zCi l w yX8_well cX8_well 3 (some .int) 1 [.ref (w.2.2 o), .int v] M (fun r M2 => ((¬ v = -4 ∧ (v < 0 ∨ 11 < v)) ∧ r = -1 ∧ M2 = M) ∨ (¬ (¬ v = -4 ∧ (v < 0 ∨ 11 < v)) ∧ r = M.1 o 6 ∧ M2 = zs M o 6 v)) := by
  refine zCi_of J zm_X8_well [some (.ref (w.2.2 o)), some (.int v), none] (Nat.le_of_ble_eq_true rfl) rfl (fun g hg F X => ?_)
  subst hg
  refine z_iload_n F dX8_well_0 rfl ?_
  refine z_bipush (v := (-4)) F dX8_well_1 (by decide) ?_
  refine z_ic_eq (tgt := 20) F dX8_well_3 (by decide) (fun h_3 => ?_) (fun h_3 => ?_)
  · refine z_aload_n F dX8_well_20 rfl ?_
    refine zg_X8_well F (by with_reducible assumption) fl_X8_56 dX8_well_21 ?_
    refine z_istore_n (lv' := [_, _, _]) F dX8_well_24 (by decide) rfl rfl ?_
    refine z_aload_n F dX8_well_25 rfl ?_
    refine z_iload_n F dX8_well_26 rfl ?_
    refine zp_X8_well F (by with_reducible assumption) fl_X8_56 dX8_well_27 ?_
    refine z_iload_n F dX8_well_30 rfl ?_
    refine z_iret F X dX8_well_31 ?_
    exact Or.inr ⟨by grind, rfl, rfl⟩
  · refine z_iload_n F dX8_well_6 rfl ?_
    refine z_i2l F dX8_well_7 ?_
    refine z_lconst (v := 0) F dX8_well_8 (by decide) ?_
    refine z_ldc2 F dX8_well_9 cl_X8_103 ?_
    refine z_callSi F (d_X8_in J (a := 0) (b := 11) (by decide) (by decide)) zm_X8_in zst_X8_in ml_X8_72 rfl rfl (Nat.le_of_ble_eq_true rfl) dX8_well_12 (by omega) (fun r_12 M_12 h_12 => ?_)
    obtain ⟨e_12, rfl⟩ := h_12
    replace e_12 := Eq.symm e_12
    subst e_12
    refine z_if_ne (tgt := 20) F dX8_well_15 (by decide) (fun h_15 => ?_) (fun h_15 => ?_)
    · replace h_15 := bI_1.mp h_15
      refine z_aload_n F dX8_well_20 rfl ?_
      refine zg_X8_well F (by with_reducible assumption) fl_X8_56 dX8_well_21 ?_
      refine z_istore_n (lv' := [_, _, _]) F dX8_well_24 (by decide) rfl rfl ?_
      refine z_aload_n F dX8_well_25 rfl ?_
      refine z_iload_n F dX8_well_26 rfl ?_
      refine zp_X8_well F (by with_reducible assumption) fl_X8_56 dX8_well_27 ?_
      refine z_iload_n F dX8_well_30 rfl ?_
      refine z_iret F X dX8_well_31 ?_
      exact Or.inr ⟨by grind, rfl, rfl⟩
    · replace h_15 := bI_0.mp h_15
      refine z_iconst (v := (-1)) F dX8_well_18 (by decide) ?_
      refine z_iret F X dX8_well_19 ?_
      exact Or.inl ⟨by grind, rfl, rfl⟩
theorem c_X8_again {l : Launch} {w : zE} (J : zJ w) {M : zM} {o : Nat} (hk : zk o = 8) (ho : o = 138) : zCi l w yX8_again cX8_again 2 (some .int) 0 [.ref (w.2.2 o)] M (fun r M2 => r = M.1 (o + 3) 3 ∧ M2 = zs M (o + 3) 3 0) := by
  obtain ⟨hz1, hz2, hz3, hz4, hz5, hz6, hz7, hz8, hz9, hz10, hz11, hz12, hz13, hz14, hz15⟩ := zn8 ho
  refine zCi_of J zm_X8_again [some (.ref (w.2.2 o)), none] (Nat.le_of_ble_eq_true rfl) rfl (fun g hg F X => ?_)
  subst hg
  refine z_aload_n F dX8_again_0 rfl ?_
  refine zg_X8_now F (by with_reducible assumption) fl_X8_16 dX8_again_1 (fun hk_1 => ?_)
  refine z_iconst (v := 3) F dX8_again_4 (by decide) ?_
  refine z_iald10n (q := 3) F (by with_reducible assumption) (by decide) (by rw [hz3]; omega) dX8_again_5 ?_
  refine z_istore_n (lv' := [_, _]) F dX8_again_6 (by decide) rfl rfl ?_
  refine z_aload_n F dX8_again_7 rfl ?_
  refine zg_X8_now F (by with_reducible assumption) fl_X8_16 dX8_again_8 (fun hk_8 => ?_)
  refine z_iconst (v := 3) F dX8_again_11 (by decide) ?_
  refine z_iconst (v := 0) F dX8_again_12 (by decide) ?_
  refine z_iast10n (q := 3) F (by with_reducible assumption) (by decide) (by rw [hz3]; omega) dX8_again_13 ?_
  refine z_iload_n F dX8_again_14 rfl ?_
  refine z_iret F X dX8_again_15 ?_
  exact ⟨rfl, rfl⟩
theorem c_X8_type {l : Launch} {w : zE} (J : zJ w) {M : zM} {o len : Nat} {c : Int32} (hk : zk o = 8) (ho : o = 138) (hl : M.1 o 10 = nI len) (h120 : len ≤ 120) : zCi l w yX8_type cX8_type 2 (some .int) 1 [.ref (w.2.2 o), .int c] M (fun r M2 => ((c < 32 ∨ 126 < c) ∧ r = -1 ∧ M2 = M) ∨ (¬ (c < 32 ∨ 126 < c) ∧ len = 120 ∧ r = -3 ∧ M2 = M) ∨ (¬ (c < 32 ∨ 126 < c) ∧ len < 120 ∧ r = nI (len + 1) ∧ M2 = zs (zs M (o + 4) len c) o 10 (nI (len + 1)))) := by
  obtain ⟨hz1, hz2, hz3, hz4, hz5, hz6, hz7, hz8, hz9, hz10, hz11, hz12, hz13, hz14, hz15⟩ := zn8 ho
  have e1 : ∀ M q v, (zs M (o + 4) q v).1 o = M.1 o := fun M q v => zs_off _ (by omega)
  have e2 : ∀ M v, (zs M o 10 v).1 o 10 = v := fun M v => by rw [zs_at, va_up_self]
  refine zCi_of J zm_X8_type [some (.ref (w.2.2 o)), some (.int c)] (Nat.le_of_ble_eq_true rfl) rfl (fun g hg F X => ?_)
  subst hg
  refine z_iload_n F dX8_type_0 rfl ?_
  refine z_i2l F dX8_type_1 ?_
  refine z_ldc2 F dX8_type_2 cl_X8_117 ?_
  refine z_ldc2 F dX8_type_5 cl_X8_119 ?_
  refine z_callSi F (d_X8_in J (a := 32) (b := 126) (by decide) (by decide)) zm_X8_in zst_X8_in ml_X8_72 rfl rfl (Nat.le_of_ble_eq_true rfl) dX8_type_8 (by omega) (fun r_8 M_8 h_8 => ?_)
  obtain ⟨e_8, rfl⟩ := h_8
  replace e_8 := Eq.symm e_8
  subst e_8
  refine z_if_ne (tgt := 16) F dX8_type_11 (by decide) (fun h_11 => ?_) (fun h_11 => ?_)
  · replace h_11 := bI_1.mp h_11
    try simp only [e1, e2, hl] at h_11
    refine z_aload_n F dX8_type_16 rfl ?_
    refine zg_X8_taped F (by with_reducible assumption) fl_X8_121 dX8_type_17 ?_
    try simp only [e1, e2, hl]
    refine z_bipush (v := 120) F dX8_type_20 (by decide) ?_
    refine z_ic_ne (tgt := 28) F dX8_type_22 (by decide) (fun h_22 => ?_) (fun h_22 => ?_)
    · try simp only [e1, e2, hl] at h_22
      have h120' : len < 120 := by
        have : len ≠ 120 := fun e => h_22 (by rw [e]; rfl)
        omega
      refine z_aload_n F dX8_type_28 rfl ?_
      refine zg_X8_tape F (by with_reducible assumption) fl_X8_19 dX8_type_29 (fun hk_29 => ?_)
      refine z_aload_n F dX8_type_32 rfl ?_
      refine zg_X8_taped F (by with_reducible assumption) fl_X8_121 dX8_type_33 ?_
      try simp only [e1, e2, hl]
      refine z_iload_n F dX8_type_36 rfl ?_
      refine z_iast10n (q := len) F (by with_reducible assumption) (by first | with_reducible rfl | (simp only [n4, n2, n3, n5, n14, n16, na1, na2, na3, nI_add, nI_1, nI_pred]; done) | (simp only [n4, n2, n3, n5, n14, n16, na1, na2, na3, nI_add, nI_1, nI_pred, Nat.add_assoc, Nat.add_comm, Nat.add_left_comm]; done)) (by rw [hz4]; omega) dX8_type_37 ?_
      refine z_aload_n F dX8_type_38 rfl ?_
      refine z_dup F dX8_type_39 rfl ?_
      refine zg_X8_taped F (by with_reducible assumption) fl_X8_121 dX8_type_40 ?_
      try simp only [e1, e2, hl]
      refine z_iconst (v := 1) F dX8_type_43 (by decide) ?_
      refine z_iadd F dX8_type_44 ?_
      refine zp_X8_taped F (by with_reducible assumption) fl_X8_121 dX8_type_45 ?_
      refine z_aload_n F dX8_type_48 rfl ?_
      refine zg_X8_taped F (by with_reducible assumption) fl_X8_121 dX8_type_49 ?_
      try simp only [e1, e2, hl]
      refine z_iret F X dX8_type_52 ?_
      rw [nI_1]
      exact Or.inr (Or.inr ⟨by grind, h120', rfl, rfl⟩)
    · try simp only [e1, e2, hl] at h_22
      refine z_bipush (v := (-3)) F dX8_type_25 (by decide) ?_
      refine z_iret F X dX8_type_27 ?_
      exact Or.inr (Or.inl ⟨by grind, (nI_eq (b := 120) (by omega) (by decide)).mp h_22, rfl, rfl⟩)
  · replace h_11 := bI_0.mp h_11
    try simp only [e1, e2, hl] at h_11
    refine z_iconst (v := (-1)) F dX8_type_14 (by decide) ?_
    refine z_iret F X dX8_type_15 ?_
    exact Or.inl ⟨by grind, rfl, rfl⟩
/-- his start -/
def startT (T : zF1) : zF1 := fun q => if q = 0 then -4 else if q < 5 then 0 else if q < 14 then -4 else T q
def stT (T : zF1) (k : Nat) : zF1 := fun q => if k ≤ q then T q else startT T q
theorem stT_s (T : zF1) (k : Nat) {v : Int32} (hv : v = startT T k) : va_up (stT T k) k v = stT T (k + 1) := by
  funext q
  unfold va_up stT
  by_cases e : q = k
  · subst e
    rw [if_pos rfl, if_neg (by omega), hv]
  · rw [if_neg e]
    by_cases e2 : k ≤ q
    · exact (if_pos e2).trans (if_pos (show k + 1 ≤ q by omega)).symm
    · exact (if_neg e2).trans (if_neg (show ¬ k + 1 ≤ q by omega)).symm
theorem c_X8_starts {l : Launch} {w : zE} (J : zJ w) {M : zM} {o : Nat} (hk : zk o = 8) (ho : o = 138) : zCv l w yX8_starts cX8_starts 2 0 [.ref (w.2.2 o)] M (fun M2 => M2 = zs (za M (o + 3) (startT (M.1 (o + 3)))) o 20 0) := by
  obtain ⟨hz1, hz2, hz3, hz4, hz5, hz6, hz7, hz8, hz9, hz10, hz11, hz12, hz13, hz14, hz15⟩ := zn8 ho
  refine zCv_of J zm_X8_starts [some (.ref (w.2.2 o)), none] (Nat.le_of_ble_eq_true rfl) rfl (fun g hg F X => ?_)
  subst hg
  have key2 : ∀ (j k : Nat), k + j = 14 → 5 ≤ k → ZW w g 2 30 [some (.ref (w.2.2 o)), some (.int (nI k))] [] (za M (o + 3) (stT (M.1 (o + 3)) k)) := by
    intro j
    induction j with
    | zero =>
      intro k hkj h5
      have e : k = 14 := by omega
      subst e
      have e2 : stT (M.1 (o + 3)) 14 = startT (M.1 (o + 3)) := by
        funext q
        unfold stT startT
        by_cases h : 14 ≤ q
        · rw [if_pos h, if_neg (by omega), if_neg (by omega), if_neg (by omega)]
        · rw [if_neg h]
      rw [e2]
      refine z_iload_n F dX8_starts_30 rfl ?_
      refine z_bipush (v := 14) F dX8_starts_31 (by decide) ?_
      refine z_ic_ge (tgt := 50) F dX8_starts_33 (by decide) (fun h_33 => ?_) (fun h_33 => absurd h_33 (by decide))
      refine z_aload_n F dX8_starts_50 rfl ?_
      refine z_iconst (v := 0) F dX8_starts_51 (by decide) ?_
      refine zp_X8_undos F (by with_reducible assumption) fl_X8_66 dX8_starts_52 ?_
      refine z_vret F X dX8_starts_55 ?_
      rfl
    | succ j ih =>
      intro k hkj h5
      have ih2 := ih (k + 1) (by omega) (by omega)
      rw [← nI_1, ← stT_s (M.1 (o + 3)) k (v := -4) (by unfold startT; rw [if_neg (by omega), if_neg (by omega), if_pos (by omega)])] at ih2
      refine z_iload_n F dX8_starts_30 rfl ?_
      refine z_bipush (v := 14) F dX8_starts_31 (by decide) ?_
      refine z_ic_ge (tgt := 50) F dX8_starts_33 (by decide) (fun h_33 => absurd h_33 (nle (nI_lt (b := 14) (by omega) (by decide)))) (fun h_33 => ?_)
      refine z_aload_n F dX8_starts_36 rfl ?_
      refine zg_X8_now F (by with_reducible assumption) fl_X8_16 dX8_starts_37 (fun hk_37 => ?_)
      refine z_iload_n F dX8_starts_40 rfl ?_
      refine z_bipush (v := (-4)) F dX8_starts_41 (by decide) ?_
      refine z_iast10n (q := k) F (by with_reducible assumption) (by first | with_reducible rfl | (simp only [n4, n2, n3, n5, n14, n16, na1, na2, na3, nI_add, nI_1, nI_pred]; done) | (simp only [n4, n2, n3, n5, n14, n16, na1, na2, na3, nI_add, nI_1, nI_pred, Nat.add_assoc, Nat.add_comm, Nat.add_left_comm]; done)) (by rw [hz3]; omega) dX8_starts_43 ?_
      refine z_iincc (c := 1) (lv' := [_, _]) F dX8_starts_44 rfl (by decide) (by decide) rfl rfl ?_
      refine z_goto (tgt := 30) F dX8_starts_47 (by decide) ?_
      rw [zs_za, za_at, za_za]
      exact ih2
  have key1 : ∀ (j k : Nat), k + j = 5 → 1 ≤ k → ZW w g 2 10 [some (.ref (w.2.2 o)), some (.int (nI k))] [] (za M (o + 3) (stT (M.1 (o + 3)) k)) := by
    intro j
    induction j with
    | zero =>
      intro k hkj h5
      have e : k = 5 := by omega
      subst e
      refine z_iload_n F dX8_starts_10 rfl ?_
      refine z_iconst (v := 5) F dX8_starts_11 (by decide) ?_
      refine z_ic_ge (tgt := 28) F dX8_starts_12 (by decide) (fun h_12 => ?_) (fun h_12 => absurd h_12 (by decide))
      refine z_iconst (v := 5) F dX8_starts_28 (by decide) ?_
      refine z_istore_n (lv' := [_, _]) F dX8_starts_29 (by decide) rfl rfl ?_
      exact key2 9 5 (by omega) (by omega)
    | succ j ih =>
      intro k hkj h5
      have ih2 := ih (k + 1) (by omega) (by omega)
      rw [← nI_1, ← stT_s (M.1 (o + 3)) k (v := 0) (by unfold startT; rw [if_neg (by omega), if_pos (by omega)])] at ih2
      refine z_iload_n F dX8_starts_10 rfl ?_
      refine z_iconst (v := 5) F dX8_starts_11 (by decide) ?_
      refine z_ic_ge (tgt := 28) F dX8_starts_12 (by decide) (fun h_12 => absurd h_12 (nle (nI_lt (b := 5) (by omega) (by decide)))) (fun h_12 => ?_)
      refine z_aload_n F dX8_starts_15 rfl ?_
      refine zg_X8_now F (by with_reducible assumption) fl_X8_16 dX8_starts_16 (fun hk_16 => ?_)
      refine z_iload_n F dX8_starts_19 rfl ?_
      refine z_iconst (v := 0) F dX8_starts_20 (by decide) ?_
      refine z_iast10n (q := k) F (by with_reducible assumption) (by first | with_reducible rfl | (simp only [n4, n2, n3, n5, n14, n16, na1, na2, na3, nI_add, nI_1, nI_pred]; done) | (simp only [n4, n2, n3, n5, n14, n16, na1, na2, na3, nI_add, nI_1, nI_pred, Nat.add_assoc, Nat.add_comm, Nat.add_left_comm]; done)) (by rw [hz3]; omega) dX8_starts_21 ?_
      refine z_iincc (c := 1) (lv' := [_, _]) F dX8_starts_22 rfl (by decide) (by decide) rfl rfl ?_
      refine z_goto (tgt := 10) F dX8_starts_25 (by decide) ?_
      rw [zs_za, za_at, za_za]
      exact ih2
  refine z_aload_n F dX8_starts_0 rfl ?_
  refine zg_X8_now F (by with_reducible assumption) fl_X8_16 dX8_starts_1 (fun hk_1 => ?_)
  refine z_iconst (v := 0) F dX8_starts_4 (by decide) ?_
  refine z_bipush (v := (-4)) F dX8_starts_5 (by decide) ?_
  refine z_iast10n (q := 0) F (by with_reducible assumption) (by decide) (by rw [hz3]; omega) dX8_starts_7 ?_
  refine z_iconst (v := 1) F dX8_starts_8 (by decide) ?_
  refine z_istore_n (lv' := [_, _]) F dX8_starts_9 (by decide) rfl rfl ?_
  have k0 := key1 4 1 (by omega) (by omega)
  rw [← stT_s (M.1 (o + 3)) 0 (v := -4) rfl] at k0
  exact k0
end
section
/-- all that he and people have is valid; his mind is one -/
def tv9 (nt : Nat) (T : zF1) : Prop := vx nt (T 0) ∧ (∀ p, p < 9 → vx nt (T (5 + p))) ∧ (T 2 = 0 ∨ T 2 = 1)
def coinF (ts a : Int32) : Int32 := (ts >>> (a &&& 31) &&& 1) + 1
def moreF (rb th : zF1) (mo c : Int32) (s : zF1 × Int32) : zF1 × Int32 := if mo = s.1 3 ∧ (0 ≤ s.1 0 ∧ s.1 0 < rb 0) ∧ (0 ≤ s.1 13 ∧ s.1 13 < rb 0) then (offT th 0 (rb 2) c 13 s.1, offR th 0 (rb 2) c 13 s.1 s.2) else s
def endM (rb th : zF1) (s : zF1 × Int32) : zF1 × Int32 := (va_up (wellF rb th s.1) 3 (wellF rb th s.1 3 + 1), s.2)
/-- a milestone of the reference: mo: where one more waits -/
def passM (rb th pe : zF1) (np : Nat) (mo c : Int32) (s : zF1 × Int32) : zF1 × Int32 := endM rb th (moreF rb th mo c (peoF rb th pe c np (feelsF rb th c s.1, s.2)))
def homeM (rb th pe : zF1) (np : Nat) (mo ts : Int32) : Nat → zF1 × Int32 → zF1 × Int32
  | 0, s => s
  | k + 1, s => homeM rb th pe np mo ts k (passM rb th pe np mo (coinF ts (s.1 3)) s)
theorem ne5 {p k : Nat} (h : k < 5) : k ≠ 5 + p := by omega
theorem ne5' {p k : Nat} (h : k < 5) : 5 + p ≠ k := by omega
theorem tv9_up1 {nt : Nat} {T : zF1} (h : tv9 nt T) (k : Nat) (v : Int32) (hk : k = 1 ∨ k = 3 ∨ k = 4) : tv9 nt (va_up T k v) := by
  obtain ⟨h1, h2, h3⟩ := h
  refine ⟨?_, fun p hp => ?_, ?_⟩
  · rw [va_up_ne _ _ (by omega)]; exact h1
  · rw [va_up_ne _ _ (by omega)]; exact h2 p hp
  · rw [va_up_ne _ _ (by omega)]; exact h3
theorem tv9_up0 {nt : Nat} {T : zF1} (h : tv9 nt T) {v : Int32} (hv : vx nt v) : tv9 nt (va_up T 0 v) := by
  obtain ⟨h1, h2, h3⟩ := h
  refine ⟨?_, fun p hp => ?_, ?_⟩
  · rw [va_up_self]; exact hv
  · rw [va_up_ne _ _ (by omega)]; exact h2 p hp
  · rw [va_up_ne _ _ (by omega)]; exact h3
theorem tv9_up2 {nt : Nat} {T : zF1} (h : tv9 nt T) {v : Int32} (hv : v = 0 ∨ v = 1) : tv9 nt (va_up T 2 v) := by
  obtain ⟨h1, h2, h3⟩ := h
  refine ⟨?_, fun p hp => ?_, ?_⟩
  · rw [va_up_ne _ _ (by omega)]; exact h1
  · rw [va_up_ne _ _ (by omega)]; exact h2 p hp
  · rw [va_up_self]; exact hv
theorem tv9_up5 {nt : Nat} {T : zF1} (h : tv9 nt T) (p : Nat) {v : Int32} (hv : vx nt v) : tv9 nt (va_up T (5 + p) v) := by
  obtain ⟨h1, h2, h3⟩ := h
  refine ⟨?_, fun q hq => ?_, ?_⟩
  · rw [va_up_ne _ _ (by omega)]; exact h1
  · by_cases e : q = p
    · rw [e, va_up_self]; exact hv
    · rw [va_up_ne _ _ (by omega)]; exact h2 q hq
  · rw [va_up_ne _ _ (by omega)]; exact h3
theorem tv9_feel {nt : Nat} {T : zF1} (h : tv9 nt T) (rb th : zF1) (c : Int32) : tv9 nt (feelsF rb th c T) := by
  unfold feelsF
  split
  · unfold feelF
    refine tv9_up2 (tv9_up1 h 1 _ (Or.inl rfl)) ?_
    split
    · exact Or.inl rfl
    · exact Or.inr rfl
  · exact h
theorem tv9_off {nt : Nat} {T : zF1} (h : tv9 nt T) (th : zF1) (mg hd c : Int32) {p : Nat} (hp : p < 9) : tv9 nt (offT th mg hd c (5 + p) T) := by
  unfold offT
  split
  · split
    · exact tv9_up1 (tv9_up1 (tv9_up0 (tv9_up5 h p h.1) (h.2.1 p hp)) 1 _ (Or.inl rfl)) 4 _ (Or.inr (Or.inr rfl))
    · exact h
  · exact h
theorem offT_3 (th : zF1) (mg hd c : Int32) (p : Nat) (T : zF1) : offT th mg hd c (5 + p) T 3 = T 3 := by
  unfold offT
  split
  · split
    · rw [va_up_ne _ _ (by omega), va_up_ne _ _ (by omega), va_up_ne _ _ (by omega), va_up_ne _ _ (by omega)]
    · rfl
  · rfl
theorem feels_3 (rb th : zF1) (c : Int32) (T : zF1) : feelsF rb th c T 3 = T 3 := by
  unfold feelsF feelF
  split
  · rw [va_up_ne _ _ (by omega), va_up_ne _ _ (by omega)]
  · rfl
theorem step_ok {nt : Nat} {s : zF1 × Int32} (h : tv9 nt s.1) (rb th pe : zF1) (c : Int32) {k : Nat} (hk : k < 9) : tv9 nt (stepF rb th pe c k s).1 ∧ (stepF rb th pe c k s).1 3 = s.1 3 := by
  unfold stepF
  split
  · exact ⟨tv9_off h _ _ _ _ hk, offT_3 _ _ _ _ _ _⟩
  · exact ⟨h, rfl⟩
theorem peo_ok {nt : Nat} {s : zF1 × Int32} (h : tv9 nt s.1) (rb th pe : zF1) (c : Int32) : ∀ k, k ≤ 9 → tv9 nt (peoF rb th pe c k s).1 ∧ (peoF rb th pe c k s).1 3 = s.1 3 := by
  intro k
  induction k with
  | zero => intro _; exact ⟨h, rfl⟩
  | succ k ih =>
    intro hk
    obtain ⟨i1, i2⟩ := ih (by omega)
    obtain ⟨j1, j2⟩ := step_ok i1 rb th pe c (k := k) (by omega)
    exact ⟨j1, j2.trans i2⟩
theorem more_ok {nt : Nat} {s : zF1 × Int32} (h : tv9 nt s.1) (rb th : zF1) (mo c : Int32) : tv9 nt (moreF rb th mo c s).1 ∧ (moreF rb th mo c s).1 3 = s.1 3 := by
  unfold moreF
  split
  · exact ⟨tv9_off h _ _ _ _ (p := 8) (by decide), offT_3 _ _ _ _ 8 _⟩
  · exact ⟨h, rfl⟩
theorem well_ok {nt : Nat} {T : zF1} (h : tv9 nt T) (rb th : zF1) : tv9 nt (wellF rb th T) ∧ wellF rb th T 3 = T 3 := by
  unfold wellF
  split
  · exact ⟨tv9_up1 (tv9_up0 h (Or.inl rfl)) 1 _ (Or.inl rfl), by rw [va_up_ne _ _ (by omega), va_up_ne _ _ (by omega)]⟩
  · exact ⟨h, rfl⟩
theorem end_ok {nt : Nat} {s : zF1 × Int32} (h : tv9 nt s.1) (rb th : zF1) : tv9 nt (endM rb th s).1 ∧ (endM rb th s).1 3 = s.1 3 + 1 := by
  obtain ⟨h1, h2⟩ := well_ok h rb th
  exact ⟨tv9_up1 h1 3 _ (Or.inr (Or.inl rfl)), by
    show va_up (wellF rb th s.1) 3 (wellF rb th s.1 3 + 1) 3 = s.1 3 + 1
    rw [va_up_self, h2]⟩
theorem pass_ok {nt : Nat} {s : zF1 × Int32} (h : tv9 nt s.1) (rb th pe : zF1) {np : Nat} (mo c : Int32) (hp : np ≤ 9) : tv9 nt (passM rb th pe np mo c s).1 ∧ (passM rb th pe np mo c s).1 3 = s.1 3 + 1 := by
  have h1 : tv9 nt (feelsF rb th c s.1, s.2).1 := tv9_feel h rb th c
  obtain ⟨h2, h3⟩ := peo_ok h1 rb th pe c np hp
  obtain ⟨h4, h5⟩ := more_ok h2 rb th mo c
  obtain ⟨h6, h7⟩ := end_ok h4 rb th
  exact ⟨h6, by
    show (endM rb th (moreF rb th mo c (peoF rb th pe c np (feelsF rb th c s.1, s.2)))).1 3 = s.1 3 + 1
    rw [h7, h5, h3]
    exact congrArg (· + 1) (feels_3 rb th c s.1)⟩
theorem home_ok {nt : Nat} (rb th pe : zF1) {np : Nat} (mo ts : Int32) (hp : np ≤ 9) : ∀ (k : Nat) {s : zF1 × Int32}, tv9 nt s.1 → tv9 nt (homeM rb th pe np mo ts k s).1 := by
  intro k
  induction k with
  | zero => intro s h; exact h
  | succ k ih => intro s h; exact ih (pass_ok h rb th pe mo _ hp).1
/-- the reference's walker: his row, and the first milestone that refused him -/
def zr (M : zM) (o : Nat) (T : zF1) (rf : Int32) : zM := za (za M (o + 3) T) o (va_up (M.1 o) 18 rf)
theorem zr_T (M : zM) (o : Nat) (T : zF1) (rf : Int32) : (zr M o T rf).1 (o + 3) = T := by unfold zr; rw [za_off _ (by omega), za_at]
theorem zr_o (M : zM) (o : Nat) (T : zF1) (rf : Int32) : (zr M o T rf).1 o = va_up (M.1 o) 18 rf := by unfold zr; rw [za_at]
theorem zr_of (M : zM) (o : Nat) (T : zF1) (rf : Int32) {k : Nat} (h : k ≠ 18) : (zr M o T rf).1 o k = M.1 o k := by rw [zr_o, va_up_ne _ _ h]
theorem zr_rf (M : zM) (o : Nat) (T : zF1) (rf : Int32) : (zr M o T rf).1 o 18 = rf := by rw [zr_o, va_up_self]
theorem zr_off {M : zM} {o b : Nat} {T : zF1} {rf : Int32} (h : b ≠ o) (h1 : b ≠ o + 3) : (zr M o T rf).1 b = M.1 b := by unfold zr; rw [za_off _ h, za_off _ h1]
theorem zr_2 (M : zM) (o : Nat) (T : zF1) (rf : Int32) : (zr M o T rf).2 = M.2 := rfl
theorem za_zr (M : zM) (o : Nat) (T : zF1) : za M (o + 3) T = zr M o T (M.1 o 18) := by
  unfold zr
  rw [va_up_id]
  conv => rhs; arg 3; rw [← za_off M (b := o + 3) (f := T) (show o ≠ o + 3 by omega)]
  rw [za_self]
theorem zr_self (M : zM) (o : Nat) : zr M o (M.1 (o + 3)) (M.1 o 18) = M := by rw [← za_zr, za_self]
theorem zr_zr (M : zM) (o : Nat) (T T2 : zF1) (rf r2 : Int32) : zr (zr M o T rf) o T2 r2 = zr M o T2 r2 := by
  unfold zr
  rw [za_at, bx_uu, za_swap _ _ _ (show o ≠ o + 3 by omega), za_za, za_za]
theorem zs_zr (M : zM) (o : Nat) (T : zF1) (rf : Int32) (q : Nat) (v : Int32) : zs (zr M o T rf) (o + 3) q v = zr M o (va_up T q v) rf := by
  rw [zs_za, zr_T]
  unfold zr
  rw [za_swap _ _ _ (show o ≠ o + 3 by omega), za_za]
theorem zs_zro (M : zM) (o : Nat) (T : zF1) (rf v : Int32) : zs (zr M o T rf) o 18 v = zr M o T v := by
  rw [zs_za, zr_o, bx_uu]
  unfold zr
  rw [za_za]
end
section
theorem c_X8_care {l : Launch} {w : zE} (J : zJ w) {M : zM} {o j : Nat} {n : Int32} (hk : zk o = 8) (ho : o = 138) (hj : j < 10) (kd : kdOK (M.1 (o + 1))) : zCi l w yX8_care cX8_care 3 (some .int) 1 [.ref (w.2.2 o), .int (nI j), .int n] M (fun r M2 => M2 = M ∧ r = feltF (M.1 (o + 1)) j 1 n * coinF (M.1 o 8) (M.1 (o + 3) 3)) := by
  obtain ⟨hz1, hz2, hz3, hz4, hz5, hz6, hz7, hz8, hz9, hz10, hz11, hz12, hz13, hz14, hz15⟩ := zn8 ho
  refine zCi_of J zm_X8_care [some (.ref (w.2.2 o)), some (.int (nI j)), some (.int n)] (Nat.le_of_ble_eq_true rfl) rfl (fun g hg F X => ?_)
  subst hg
  refine z_aload_n F dX8_care_0 rfl ?_
  refine z_iload_n F dX8_care_1 rfl ?_
  refine z_iload_n F dX8_care_2 rfl ?_
  refine z_iconst (v := 1) F dX8_care_3 (by decide) ?_
  refine z_callVi F (c_X8_feels J hk ho hj kd) zm_X8_feels zv_X8_feels ml_X8_99 (by with_reducible assumption) (by decide) rfl rfl rfl (Nat.le_of_ble_eq_true rfl) dX8_care_4 (by omega) (fun r_4 M_4 h_4 => ?_)
  obtain ⟨e_4, rfl⟩ := h_4
  replace e_4 := Eq.symm e_4
  subst e_4
  refine z_aload_n F dX8_care_7 rfl ?_
  refine zg_X8_tossed F (by with_reducible assumption) fl_X8_163 dX8_care_8 ?_
  refine z_aload_n F dX8_care_11 rfl ?_
  refine zg_X8_now F (by with_reducible assumption) fl_X8_16 dX8_care_12 (fun hk_12 => ?_)
  refine z_iconst (v := 3) F dX8_care_15 (by decide) ?_
  refine z_iald10n (q := 3) F (by with_reducible assumption) (by decide) (by rw [hz3]; omega) dX8_care_16 ?_
  refine z_ishr F dX8_care_17 ?_
  refine z_iconst (v := 1) F dX8_care_18 (by decide) ?_
  refine z_iand F dX8_care_19 ?_
  refine z_iconst (v := 1) F dX8_care_20 (by decide) ?_
  refine z_iadd F dX8_care_21 ?_
  refine z_imul F dX8_care_22 ?_
  refine z_iret F X dX8_care_23 ?_
  exact ⟨rfl, rfl⟩
theorem c_X8_own {l : Launch} {w : zE} (J : zJ w) {M : zM} {o h : Nat} {k : Int32} (hk : zk o = 8) (ho : o = 138) (hh : M.1 (o + 3) 0 = nI h) (h10 : h < 10) (kd : kdOK (M.1 (o + 1))) (hk01 : k = 0 ∨ k = 1) : zCi l w yX8_own cX8_own 2 (some .int) 2 [.ref (w.2.2 o), .int k] M (fun r M2 => M2 = M ∧ r = feltF (M.1 (o + 1)) h k (M.1 (o + 3) 1) * timesF (coinF (M.1 o 8) (M.1 (o + 3) 3)) k) := by
  obtain ⟨hz1, hz2, hz3, hz4, hz5, hz6, hz7, hz8, hz9, hz10, hz11, hz12, hz13, hz14, hz15⟩ := zn8 ho
  refine zCi_of J zm_X8_own [some (.ref (w.2.2 o)), some (.int k)] (Nat.le_of_ble_eq_true rfl) rfl (fun g hg F X => ?_)
  subst hg
  refine z_iload_n F dX8_own_0 rfl ?_
  refine z_if_ne (tgt := 24) F dX8_own_1 (by decide) (fun h_1 => ?_) (fun h_1 => ?_)
  · try simp only [hh] at h_1
    refine z_aload_n F dX8_own_24 rfl ?_
    refine z_aload_n F dX8_own_25 rfl ?_
    refine zg_X8_now F (by with_reducible assumption) fl_X8_16 dX8_own_26 (fun hk_26 => ?_)
    refine z_iconst (v := 0) F dX8_own_29 (by decide) ?_
    refine z_iald10n (q := 0) F (by with_reducible assumption) (by decide) (by rw [hz3]; omega) dX8_own_30 ?_
    try simp only [hh]
    refine z_aload_n F dX8_own_31 rfl ?_
    refine zg_X8_now F (by with_reducible assumption) fl_X8_16 dX8_own_32 (fun hk_32 => ?_)
    refine z_iconst (v := 1) F dX8_own_35 (by decide) ?_
    refine z_iald10n (q := 1) F (by with_reducible assumption) (by decide) (by rw [hz3]; omega) dX8_own_36 ?_
    try simp only [hh]
    refine z_callVi F (c_X8_care J hk ho h10 kd) zm_X8_care zv_X8_care ml_X8_166 (by with_reducible assumption) (by decide) rfl rfl rfl (Nat.le_of_ble_eq_true rfl) dX8_own_37 (by omega) (fun r_37 M_37 h_37 => ?_)
    obtain ⟨e_37, rfl⟩ := h_37
    replace e_37 := Eq.symm e_37
    subst e_37
    refine z_iret F X dX8_own_40 ?_
    refine ⟨rfl, ?_⟩
    have e := hk01.resolve_left h_1
    subst e
    rw [timesF_1 rfl]
  · try simp only [hh] at h_1
    refine z_aload_n F dX8_own_4 rfl ?_
    refine z_aload_n F dX8_own_5 rfl ?_
    refine zg_X8_now F (by with_reducible assumption) fl_X8_16 dX8_own_6 (fun hk_6 => ?_)
    refine z_iconst (v := 0) F dX8_own_9 (by decide) ?_
    refine z_iald10n (q := 0) F (by with_reducible assumption) (by decide) (by rw [hz3]; omega) dX8_own_10 ?_
    try simp only [hh]
    refine z_aload_n F dX8_own_11 rfl ?_
    refine zg_X8_now F (by with_reducible assumption) fl_X8_16 dX8_own_12 (fun hk_12 => ?_)
    refine z_iconst (v := 1) F dX8_own_15 (by decide) ?_
    refine z_iald10n (q := 1) F (by with_reducible assumption) (by decide) (by rw [hz3]; omega) dX8_own_16 ?_
    try simp only [hh]
    refine z_iconst (v := 0) F dX8_own_17 (by decide) ?_
    refine z_callVi F (c_X8_feels J hk ho h10 kd) zm_X8_feels zv_X8_feels ml_X8_99 (by with_reducible assumption) (by decide) rfl rfl rfl (Nat.le_of_ble_eq_true rfl) dX8_own_18 (by omega) (fun r_18 M_18 h_18 => ?_)
    obtain ⟨e_18, rfl⟩ := h_18
    replace e_18 := Eq.symm e_18
    subst e_18
    refine z_goto (tgt := 40) F dX8_own_21 (by decide) ?_
    refine z_iret F X dX8_own_40 ?_
    refine ⟨rfl, ?_⟩
    subst h_1
    rw [timesF_0 (by decide), Int32.mul_one]
theorem wrt_n (th : zF1) {j : Nat} (h : j < 10) : wrt th (nI j) = th (4 * j + 1) := by unfold wrt; rw [if_neg (nI_pos (by omega)), nI_clamp (by omega)]
theorem c_X8_isGlad {l : Launch} {w : zE} (J : zJ w) {M : zM} {o h j : Nat} (hk : zk o = 8) (ho : o = 138) (hh : M.1 (o + 3) 0 = nI h) (h10 : h < 10) (hj : j < 10) (kd : kdOK (M.1 (o + 1))) (hm : M.1 (o + 3) 2 = 0 ∨ M.1 (o + 3) 2 = 1) : zCi l w yX8_isGlad cX8_isGlad 2 (some .boolean) 3 [.ref (w.2.2 o), .int (nI j)] M (fun r M2 => M2 = M ∧ r = bI (gladF (M.1 (o + 1)) (coinF (M.1 o 8) (M.1 (o + 3) 3)) (M.1 o 5) (M.1 (o + 3)) (nI j))) := by
  obtain ⟨hz1, hz2, hz3, hz4, hz5, hz6, hz7, hz8, hz9, hz10, hz11, hz12, hz13, hz14, hz15⟩ := zn8 ho
  have c1 : (M.1 (o + 3) 0).toNatClampNeg = h := by rw [hh]; exact nI_clamp (by omega)
  have c2 : (nI j).toNatClampNeg = j := nI_clamp (by omega)
  unfold gladF
  rw [c1, c2]
  refine zCi_of J zm_X8_isGlad [some (.ref (w.2.2 o)), some (.int (nI j))] (Nat.le_of_ble_eq_true rfl) rfl (fun g hg F X => ?_)
  subst hg
  refine z_aload_n F dX8_isGlad_0 rfl ?_
  refine z_aload_n F dX8_isGlad_1 rfl ?_
  refine zg_X8_now F (by with_reducible assumption) fl_X8_16 dX8_isGlad_2 (fun hk_2 => ?_)
  refine z_iconst (v := 2) F dX8_isGlad_5 (by decide) ?_
  refine z_iald10n (q := 2) F (by with_reducible assumption) (by decide) (by rw [hz3]; omega) dX8_isGlad_6 ?_
  try simp only [hh]
  refine z_callVi F (c_X8_own J hk ho hh h10 kd hm) zm_X8_own zv_X8_own ml_X8_170 (by with_reducible assumption) (by decide) rfl rfl rfl (Nat.le_of_ble_eq_true rfl) dX8_isGlad_7 (by omega) (fun r_7 M_7 h_7 => ?_)
  obtain ⟨e_7, rfl⟩ := h_7
  replace e_7 := Eq.symm e_7
  subst e_7
  refine z_aload_n F dX8_isGlad_10 rfl ?_
  refine z_iload_n F dX8_isGlad_11 rfl ?_
  refine z_iconst (v := 0) F dX8_isGlad_12 (by decide) ?_
  refine z_aload_n F dX8_isGlad_13 rfl ?_
  refine zg_X8_now F (by with_reducible assumption) fl_X8_16 dX8_isGlad_14 (fun hk_14 => ?_)
  refine z_iconst (v := 2) F dX8_isGlad_17 (by decide) ?_
  refine z_iald10n (q := 2) F (by with_reducible assumption) (by decide) (by rw [hz3]; omega) dX8_isGlad_18 ?_
  try simp only [hh]
  refine z_callVi F (c_X8_feels J hk ho hj kd) zm_X8_feels zv_X8_feels ml_X8_99 (by with_reducible assumption) (by decide) rfl rfl rfl (Nat.le_of_ble_eq_true rfl) dX8_isGlad_19 (by omega) (fun r_19 M_19 h_19 => ?_)
  obtain ⟨e_19, rfl⟩ := h_19
  replace e_19 := Eq.symm e_19
  subst e_19
  refine z_ic_le (tgt := 52) F dX8_isGlad_22 (by decide) (fun h_22 => ?_) (fun h_22 => ?_)
  · try simp only [hh] at h_22
    refine z_iconst (v := 0) F dX8_isGlad_52 (by decide) ?_
    refine z_zret F X dX8_isGlad_53 (by decide) ?_
    exact ⟨rfl, bI_f (fun q => absurd q.1 (Int32.not_lt.mpr h_22))⟩
  · try simp only [hh] at h_22
    refine z_aload_n F dX8_isGlad_25 rfl ?_
    refine z_aload_n F dX8_isGlad_26 rfl ?_
    refine zg_X8_now F (by with_reducible assumption) fl_X8_16 dX8_isGlad_27 (fun hk_27 => ?_)
    refine z_iconst (v := 0) F dX8_isGlad_30 (by decide) ?_
    refine z_iald10n (q := 0) F (by with_reducible assumption) (by decide) (by rw [hz3]; omega) dX8_isGlad_31 ?_
    try simp only [hh]
    refine z_callVi F (c_X8_worth J hk ho (nt := 10) (Or.inr ⟨h, h10, rfl⟩) (by omega)) zm_X8_worth zv_X8_worth ml_X8_173 (by with_reducible assumption) (by decide) rfl rfl rfl (Nat.le_of_ble_eq_true rfl) dX8_isGlad_32 (by omega) (fun r_32 M_32 h_32 => ?_)
    obtain ⟨e_32, rfl⟩ := h_32
    replace e_32 := Eq.symm e_32
    subst e_32
    refine z_aload_n F dX8_isGlad_35 rfl ?_
    refine z_iload_n F dX8_isGlad_36 rfl ?_
    refine z_callVi F (c_X8_worth J hk ho (nt := 10) (Or.inr ⟨j, hj, rfl⟩) (by omega)) zm_X8_worth zv_X8_worth ml_X8_173 (by with_reducible assumption) (by decide) rfl rfl rfl (Nat.le_of_ble_eq_true rfl) dX8_isGlad_37 (by omega) (fun r_37 M_37 h_37 => ?_)
    obtain ⟨e_37, rfl⟩ := h_37
    replace e_37 := Eq.symm e_37
    subst e_37
    rw [wrt_n _ h10, wrt_n _ hj]
    refine z_isub F dX8_isGlad_40 ?_
    refine z_aload_n F dX8_isGlad_41 rfl ?_
    refine zg_X8_heed F (by with_reducible assumption) fl_X8_60 dX8_isGlad_42 ?_
    try simp only [hh]
    refine z_ic_gt (tgt := 52) F dX8_isGlad_45 (by decide) (fun h_45 => ?_) (fun h_45 => ?_)
    · try simp only [hh] at h_45
      refine z_iconst (v := 0) F dX8_isGlad_52 (by decide) ?_
      refine z_zret F X dX8_isGlad_53 (by decide) ?_
      exact ⟨rfl, bI_f (fun q => absurd q.2 (Int32.not_le.mpr h_45))⟩
    · try simp only [hh] at h_45
      refine z_iconst (v := 1) F dX8_isGlad_48 (by decide) ?_
      refine z_goto (tgt := 53) F dX8_isGlad_49 (by decide) ?_
      refine z_zret F X dX8_isGlad_53 (by decide) ?_
      exact ⟨rfl, bI_t ⟨h_22, h_45⟩⟩
/-- one who has something asks him: at slot 5 + p -/
def askF (rb th : zF1) (mg c : Int32) (p : Nat) (s : zF1 × Int32) : zF1 × Int32 := if (0 ≤ s.1 0 ∧ s.1 0 < rb 0) ∧ (0 ≤ s.1 (5 + p) ∧ s.1 (5 + p) < rb 0) then (offT th mg (rb 2) c (5 + p) s.1, offR th mg (rb 2) c (5 + p) s.1 s.2) else s
theorem c_X8_asks {l : Launch} {w : zE} (J : zJ w) {M : zM} {o nt p : Nat} {mg : Int32} (hk : zk o = 8) (ho : o = 138) (hnt : M.1 o 0 = nI nt) (h10 : nt ≤ 10) (hp : p < 9) (kd : kdOK (M.1 (o + 1))) (tv : tv9 nt (M.1 (o + 3))) : zCv l w yX8_asks cX8_asks 4 4 [.ref (w.2.2 o), .int (nI p), .int mg] M (fun M2 => M2 = zr M o (askF (rbM (M.1 o)) (M.1 (o + 1)) mg (coinF (M.1 o 8) (M.1 (o + 3) 3)) p (M.1 (o + 3), M.1 o 18)).1 (askF (rbM (M.1 o)) (M.1 (o + 1)) mg (coinF (M.1 o 8) (M.1 (o + 3) 3)) p (M.1 (o + 3), M.1 o 18)).2) := by
  obtain ⟨hz1, hz2, hz3, hz4, hz5, hz6, hz7, hz8, hz9, hz10, hz11, hz12, hz13, hz14, hz15⟩ := zn8 ho
  obtain ⟨v0, v5, vm⟩ := id tv
  have vp := v5 p hp
  have e4 : ∀ a b c, (zs (zs (zs M (o + 3) (5 + p) a) (o + 3) 0 b) (o + 3) 1 c).1 (o + 3) 4 = M.1 (o + 3) 4 := fun a b c => by
    rw [zs_at, va_up_ne _ _ (by omega), zs_at, va_up_ne _ _ (by omega), zs_at, va_up_ne _ _ (by omega)]
  refine zCv_of J zm_X8_asks [some (.ref (w.2.2 o)), some (.int (nI p)), some (.int mg), none] (Nat.le_of_ble_eq_true rfl) rfl (fun g hg F X => ?_)
  subst hg
  have hno : ¬ ((0 ≤ M.1 (o + 3) 0 ∧ M.1 (o + 3) 0 < rbM (M.1 o) 0) ∧ (0 ≤ M.1 (o + 3) (5 + p) ∧ M.1 (o + 3) (5 + p) < rbM (M.1 o) 0)) → M = zr M o (askF (rbM (M.1 o)) (M.1 (o + 1)) mg (coinF (M.1 o 8) (M.1 (o + 3) 3)) p (M.1 (o + 3), M.1 o 18)).1 (askF (rbM (M.1 o)) (M.1 (o + 1)) mg (coinF (M.1 o 8) (M.1 (o + 3) 3)) p (M.1 (o + 3), M.1 o 18)).2 := fun q => by
    unfold askF
    rw [if_neg q]
    exact (zr_self M o).symm
  have e0 : rbM (M.1 o) 0 = nI nt := hnt
  rcases vx_in v0 h10 with ⟨a0, b0⟩ | ⟨h, hh, a0, b0⟩
  · refine z_aload_n F dX8_asks_0 rfl ?_
    refine zg_X8_now F (by with_reducible assumption) fl_X8_16 dX8_asks_1 (fun hk_1 => ?_)
    refine z_iconst (v := 5) F dX8_asks_4 (by decide) ?_
    refine z_iload_n F dX8_asks_5 rfl ?_
    refine z_iadd F dX8_asks_6 ?_
    refine z_iald10n (q := (5 + p)) F (by with_reducible assumption) (by first | with_reducible rfl | (simp only [n4, n2, n3, n5, n14, n16, na1, na2, na3, nI_add, nI_1, nI_pred]; done) | (simp only [n4, n2, n3, n5, n14, n16, na1, na2, na3, nI_add, nI_1, nI_pred, Nat.add_assoc, Nat.add_comm, Nat.add_left_comm]; done)) (by rw [hz3]; omega) dX8_asks_7 ?_
    try simp only [a0]
    refine z_istore_n (lv' := [_, _, _, _]) F dX8_asks_8 (by decide) rfl rfl ?_
    refine z_aload_n F dX8_asks_9 rfl ?_
    refine zg_X8_now F (by with_reducible assumption) fl_X8_16 dX8_asks_10 (fun hk_10 => ?_)
    refine z_iconst (v := 0) F dX8_asks_13 (by decide) ?_
    refine z_iald10n (q := 0) F (by with_reducible assumption) (by decide) (by rw [hz3]; omega) dX8_asks_14 ?_
    try simp only [a0]
    refine z_bipush (v := (-4)) F dX8_asks_15 (by decide) ?_
    refine z_ic_eq (tgt := 34) F dX8_asks_17 (by decide) (fun h_17 => ?_) (fun h_17 => absurd h_17 (not_not_intro rfl))
    refine z_vret F X dX8_asks_34 ?_
    refine hno (fun q => b0 ?_)
    rw [← e0]
    exact q.1
  rcases vx_in vp h10 with ⟨a1, b1⟩ | ⟨j, hj, a1, b1⟩
  · refine z_aload_n F dX8_asks_0 rfl ?_
    refine zg_X8_now F (by with_reducible assumption) fl_X8_16 dX8_asks_1 (fun hk_1 => ?_)
    refine z_iconst (v := 5) F dX8_asks_4 (by decide) ?_
    refine z_iload_n F dX8_asks_5 rfl ?_
    refine z_iadd F dX8_asks_6 ?_
    refine z_iald10n (q := (5 + p)) F (by with_reducible assumption) (by first | with_reducible rfl | (simp only [n4, n2, n3, n5, n14, n16, na1, na2, na3, nI_add, nI_1, nI_pred]; done) | (simp only [n4, n2, n3, n5, n14, n16, na1, na2, na3, nI_add, nI_1, nI_pred, Nat.add_assoc, Nat.add_comm, Nat.add_left_comm]; done)) (by rw [hz3]; omega) dX8_asks_7 ?_
    try simp only [a0, a1]
    refine z_istore_n (lv' := [_, _, _, _]) F dX8_asks_8 (by decide) rfl rfl ?_
    refine z_aload_n F dX8_asks_9 rfl ?_
    refine zg_X8_now F (by with_reducible assumption) fl_X8_16 dX8_asks_10 (fun hk_10 => ?_)
    refine z_iconst (v := 0) F dX8_asks_13 (by decide) ?_
    refine z_iald10n (q := 0) F (by with_reducible assumption) (by decide) (by rw [hz3]; omega) dX8_asks_14 ?_
    try simp only [a0, a1]
    refine z_bipush (v := (-4)) F dX8_asks_15 (by decide) ?_
    refine z_ic_eq (tgt := 34) F dX8_asks_17 (by decide) (fun h_17 => absurd h_17 (by rw [← a0]; intro e; rw [e] at b0; exact absurd b0.1 (by decide))) (fun h_17 => ?_)
    refine z_iload_n F dX8_asks_20 rfl ?_
    refine z_bipush (v := (-4)) F dX8_asks_21 (by decide) ?_
    refine z_ic_eq (tgt := 34) F dX8_asks_23 (by decide) (fun h_23 => ?_) (fun h_23 => absurd h_23 (not_not_intro rfl))
    refine z_vret F X dX8_asks_34 ?_
    refine hno (fun q => b1 ?_)
    rw [← e0]
    exact q.2
  have hyes : ∀ X2 : zF1 × Int32, (if gladF (M.1 (o + 1)) (coinF (M.1 o 8) (M.1 (o + 3) 3)) (M.1 o 5) (M.1 (o + 3)) (nI j) then (if willF (M.1 (o + 1)) mg (M.1 (o + 3)) (nI j) then (va_up (va_up (va_up (va_up (M.1 (o + 3)) (5 + p) (M.1 (o + 3) 0)) 0 (nI j)) 1 0) 4 (M.1 (o + 3) 4 + 1), M.1 o 18) else (M.1 (o + 3), if M.1 o 18 = -4 then M.1 (o + 3) 3 else M.1 o 18)) else (M.1 (o + 3), M.1 o 18)) = X2 → askF (rbM (M.1 o)) (M.1 (o + 1)) mg (coinF (M.1 o 8) (M.1 (o + 3) 3)) p (M.1 (o + 3), M.1 o 18) = X2 := by
    intro X2 hX
    rw [← hX]
    unfold askF
    rw [e0, if_pos ⟨b0, b1⟩]
    unfold offT offR
    rw [show (M.1 (o + 3), M.1 o 18).1 (5 + p) = nI j from a1]
    show ((if gladF (M.1 (o + 1)) (coinF (M.1 o 8) (M.1 (o + 3) 3)) (M.1 o 5) (M.1 (o + 3)) (nI j) then (if willF (M.1 (o + 1)) mg (M.1 (o + 3)) (nI j) then _ else _) else _), (if gladF (M.1 (o + 1)) (coinF (M.1 o 8) (M.1 (o + 3) 3)) (M.1 o 5) (M.1 (o + 3)) (nI j) then (if willF (M.1 (o + 1)) mg (M.1 (o + 3)) (nI j) then _ else _) else _)) = _
    split
    · split <;> rfl
    · rfl
  have hn4 : ¬ (nI h = -4) := (by decide : ∀ h, h < 10 → ¬ nI h = -4) h (by omega)
  have hn5 : ¬ (nI j = -4) := (by decide : ∀ h, h < 10 → ¬ nI h = -4) j (by omega)
  have cw : willF (M.1 (o + 1)) mg (M.1 (o + 3)) (nI j) ↔ M.1 (o + 1) (4 * j + 1) + mg ≤ M.1 (o + 1) (4 * h + 1) := by
    unfold willF
    rw [a0, nI_clamp (by omega), nI_clamp (by omega)]
  refine z_aload_n F dX8_asks_0 rfl ?_
  refine zg_X8_now F (by with_reducible assumption) fl_X8_16 dX8_asks_1 (fun hk_1 => ?_)
  refine z_iconst (v := 5) F dX8_asks_4 (by decide) ?_
  refine z_iload_n F dX8_asks_5 rfl ?_
  refine z_iadd F dX8_asks_6 ?_
  refine z_iald10n (q := (5 + p)) F (by with_reducible assumption) (by first | with_reducible rfl | (simp only [n4, n2, n3, n5, n14, n16, na1, na2, na3, nI_add, nI_1, nI_pred]; done) | (simp only [n4, n2, n3, n5, n14, n16, na1, na2, na3, nI_add, nI_1, nI_pred, Nat.add_assoc, Nat.add_comm, Nat.add_left_comm]; done)) (by rw [hz3]; omega) dX8_asks_7 ?_
  try simp only [a1]
  refine z_istore_n (lv' := [_, _, _, _]) F dX8_asks_8 (by decide) rfl rfl ?_
  refine z_aload_n F dX8_asks_9 rfl ?_
  refine zg_X8_now F (by with_reducible assumption) fl_X8_16 dX8_asks_10 (fun hk_10 => ?_)
  refine z_iconst (v := 0) F dX8_asks_13 (by decide) ?_
  refine z_iald10n (q := 0) F (by with_reducible assumption) (by decide) (by rw [hz3]; omega) dX8_asks_14 ?_
  try simp only [a1]
  refine z_bipush (v := (-4)) F dX8_asks_15 (by decide) ?_
  refine z_ic_eq (tgt := 34) F dX8_asks_17 (by decide) (fun h_17 => absurd h_17 (by rw [a0]; exact hn4)) (fun h_17 => ?_)
  refine z_iload_n F dX8_asks_20 rfl ?_
  refine z_bipush (v := (-4)) F dX8_asks_21 (by decide) ?_
  refine z_ic_eq (tgt := 34) F dX8_asks_23 (by decide) (fun h_23 => absurd h_23 hn5) (fun h_23 => ?_)
  refine z_aload_n F dX8_asks_26 rfl ?_
  refine z_iload_n F dX8_asks_27 rfl ?_
  refine z_callVi F (c_X8_isGlad J hk ho a0 (by omega) (by omega) kd vm) zm_X8_isGlad zv_X8_isGlad ml_X8_176 (by with_reducible assumption) (by decide) rfl rfl rfl (Nat.le_of_ble_eq_true rfl) dX8_asks_28 (by omega) (fun r_28 M_28 h_28 => ?_)
  obtain ⟨e_28, rfl⟩ := h_28
  replace e_28 := Eq.symm e_28
  subst e_28
  refine z_if_ne (tgt := 35) F dX8_asks_31 (by decide) (fun h_31 => ?_) (fun h_31 => ?_)
  · replace h_31 := bI_1.mp h_31
    try simp only [a1] at h_31
    refine z_aload_n F dX8_asks_35 rfl ?_
    refine z_aload_n F dX8_asks_36 rfl ?_
    refine zg_X8_now F (by with_reducible assumption) fl_X8_16 dX8_asks_37 (fun hk_37 => ?_)
    refine z_iconst (v := 0) F dX8_asks_40 (by decide) ?_
    refine z_iald10n (q := 0) F (by with_reducible assumption) (by decide) (by rw [hz3]; omega) dX8_asks_41 ?_
    try simp only [a1]
    refine z_callVi F (c_X8_worth J hk ho v0 h10) zm_X8_worth zv_X8_worth ml_X8_173 (by with_reducible assumption) (by decide) rfl rfl rfl (Nat.le_of_ble_eq_true rfl) dX8_asks_42 (by omega) (fun r_42 M_42 h_42 => ?_)
    obtain ⟨e_42, rfl⟩ := h_42
    replace e_42 := Eq.symm e_42
    subst e_42
    refine z_aload_n F dX8_asks_45 rfl ?_
    refine z_iload_n F dX8_asks_46 rfl ?_
    refine z_callVi F (c_X8_worth J hk ho (Or.inr ⟨j, hj, rfl⟩) h10) zm_X8_worth zv_X8_worth ml_X8_173 (by with_reducible assumption) (by decide) rfl rfl rfl (Nat.le_of_ble_eq_true rfl) dX8_asks_47 (by omega) (fun r_47 M_47 h_47 => ?_)
    obtain ⟨e_47, rfl⟩ := h_47
    replace e_47 := Eq.symm e_47
    subst e_47
    refine z_iload_n F dX8_asks_50 rfl ?_
    refine z_iadd F dX8_asks_51 ?_
    rw [a0, wrt_n _ (by omega), wrt_n _ (by omega)]
    refine z_ic_lt (tgt := 96) F dX8_asks_52 (by decide) (fun h_52 => ?_) (fun h_52 => ?_)
    · try simp only [a1] at h_52
      refine z_aload_n F dX8_asks_96 rfl ?_
      refine z_aload_n F dX8_asks_97 rfl ?_
      refine zg_X8_refused F (by with_reducible assumption) fl_X8_179 dX8_asks_98 ?_
      try simp only [a1]
      refine z_bipush (v := (-4)) F dX8_asks_101 (by decide) ?_
      refine z_ic_ne (tgt := 115) F dX8_asks_103 (by decide) (fun h_103 => ?_) (fun h_103 => ?_)
      · try simp only [a1] at h_103
        refine z_aload_n F dX8_asks_115 rfl ?_
        refine zg_X8_refused F (by with_reducible assumption) fl_X8_179 dX8_asks_116 ?_
        try simp only [a1]
        refine zp_X8_refused F (by with_reducible assumption) fl_X8_179 dX8_asks_119 ?_
        refine z_vret F X dX8_asks_122 ?_
        rw [hyes _ (by rw [if_pos h_31, if_neg (fun q => absurd (cw.mp q) (Int32.not_le.mpr h_52)), if_neg h_103])]
        have q := zs_zro M o (M.1 (o + 3)) (M.1 o 18) (M.1 o 18)
        rw [zr_self] at q
        exact q.trans (zr_self M o).symm
      · try simp only [a1] at h_103
        refine z_aload_n F dX8_asks_106 rfl ?_
        refine zg_X8_now F (by with_reducible assumption) fl_X8_16 dX8_asks_107 (fun hk_107 => ?_)
        refine z_iconst (v := 3) F dX8_asks_110 (by decide) ?_
        refine z_iald10n (q := 3) F (by with_reducible assumption) (by decide) (by rw [hz3]; omega) dX8_asks_111 ?_
        try simp only [a1]
        refine z_goto (tgt := 119) F dX8_asks_112 (by decide) ?_
        refine zp_X8_refused F (by with_reducible assumption) fl_X8_179 dX8_asks_119 ?_
        refine z_vret F X dX8_asks_122 ?_
        rw [hyes _ (by rw [if_pos h_31, if_neg (fun q => absurd (cw.mp q) (Int32.not_le.mpr h_52)), if_pos h_103])]
        have q := zs_zro M o (M.1 (o + 3)) (M.1 o 18) (M.1 (o + 3) 3)
        rw [zr_self] at q
        exact q
    · try simp only [a1] at h_52
      refine z_aload_n F dX8_asks_55 rfl ?_
      refine zg_X8_now F (by with_reducible assumption) fl_X8_16 dX8_asks_56 (fun hk_56 => ?_)
      refine z_iconst (v := 5) F dX8_asks_59 (by decide) ?_
      refine z_iload_n F dX8_asks_60 rfl ?_
      refine z_iadd F dX8_asks_61 ?_
      refine z_aload_n F dX8_asks_62 rfl ?_
      refine zg_X8_now F (by with_reducible assumption) fl_X8_16 dX8_asks_63 (fun hk_63 => ?_)
      refine z_iconst (v := 0) F dX8_asks_66 (by decide) ?_
      refine z_iald10n (q := 0) F (by with_reducible assumption) (by decide) (by rw [hz3]; omega) dX8_asks_67 ?_
      try simp only [a1]
      refine z_iast10n (q := (5 + p)) F (by with_reducible assumption) (by first | with_reducible rfl | (simp only [n4, n2, n3, n5, n14, n16, na1, na2, na3, nI_add, nI_1, nI_pred]; done) | (simp only [n4, n2, n3, n5, n14, n16, na1, na2, na3, nI_add, nI_1, nI_pred, Nat.add_assoc, Nat.add_comm, Nat.add_left_comm]; done)) (by rw [hz3]; omega) dX8_asks_68 ?_
      refine z_aload_n F dX8_asks_69 rfl ?_
      refine zg_X8_now F (by with_reducible assumption) fl_X8_16 dX8_asks_70 (fun hk_70 => ?_)
      refine z_iconst (v := 0) F dX8_asks_73 (by decide) ?_
      refine z_iload_n F dX8_asks_74 rfl ?_
      refine z_iast10n (q := 0) F (by with_reducible assumption) (by decide) (by rw [hz3]; omega) dX8_asks_75 ?_
      refine z_aload_n F dX8_asks_76 rfl ?_
      refine zg_X8_now F (by with_reducible assumption) fl_X8_16 dX8_asks_77 (fun hk_77 => ?_)
      refine z_iconst (v := 1) F dX8_asks_80 (by decide) ?_
      refine z_iconst (v := 0) F dX8_asks_81 (by decide) ?_
      refine z_iast10n (q := 1) F (by with_reducible assumption) (by decide) (by rw [hz3]; omega) dX8_asks_82 ?_
      refine z_aload_n F dX8_asks_83 rfl ?_
      refine zg_X8_now F (by with_reducible assumption) fl_X8_16 dX8_asks_84 (fun hk_84 => ?_)
      refine z_iconst (v := 4) F dX8_asks_87 (by decide) ?_
      refine z_dup2 F dX8_asks_88 rfl rfl ?_
      refine z_iald10n (q := 4) F (by with_reducible assumption) (by decide) (by rw [hz3]; omega) dX8_asks_89 ?_
      simp only [e4]
      refine z_iconst (v := 1) F dX8_asks_90 (by decide) ?_
      refine z_iadd F dX8_asks_91 ?_
      refine z_iast10n (q := 4) F (by with_reducible assumption) (by decide) (by rw [hz3]; omega) dX8_asks_92 ?_
      refine z_goto (tgt := 122) F dX8_asks_93 (by decide) ?_
      refine z_vret F X dX8_asks_122 ?_
      rw [hyes _ (by rw [if_pos h_31, if_pos (cw.mpr h_52)])]
      show _ = zr M o _ (M.1 o 18)
      rw [← za_zr]
      simp only [zs_za, za_at, za_za]
  · replace h_31 := bI_0.mp h_31
    try simp only [a1] at h_31
    refine z_vret F X dX8_asks_34 ?_
    rw [hyes (M.1 (o + 3), M.1 o 18) (if_neg h_31)]
    exact (zr_self M o).symm
end
section
theorem rbM_up (R : zF1) (v : Int32) : rbM (va_up R 18 v) = rbM R := funext fun k => by
  unfold rbM
  rw [va_up_ne _ _ (by decide), va_up_ne _ _ (by decide), va_up_ne _ _ (by decide), va_up_ne _ _ (by decide)]
theorem rbM_zr (M : zM) (o : Nat) (T : zF1) (rf : Int32) : rbM ((zr M o T rf).1 o) = rbM (M.1 o) := by rw [zr_o, rbM_up]
theorem stepF_ask (rb th pe : zF1) (c : Int32) (k : Nat) (s : zF1 × Int32) : stepF rb th pe c k s = if pe (2 * k) = s.1 3 then askF rb th (pe (2 * k + 1)) c k s else s := by
  unfold stepF askF
  by_cases e : pe (2 * k) = s.1 3
  · rw [if_pos e]
    by_cases e2 : (0 ≤ s.1 0 ∧ s.1 0 < rb 0) ∧ (0 ≤ s.1 (5 + k) ∧ s.1 (5 + k) < rb 0)
    · rw [if_pos ⟨e, e2⟩, if_pos e2]
    · rw [if_neg (fun q => e2 q.2), if_neg e2]
  · rw [if_neg e, if_neg (fun q => e q.1)]
theorem moreF_ask (rb th : zF1) (mo c : Int32) (s : zF1 × Int32) : moreF rb th mo c s = if mo = s.1 3 then askF rb th 0 c 8 s else s := by
  unfold moreF askF
  by_cases e : mo = s.1 3
  · rw [if_pos e]
    by_cases e2 : (0 ≤ s.1 0 ∧ s.1 0 < rb 0) ∧ (0 ≤ s.1 (5 + 8) ∧ s.1 (5 + 8) < rb 0)
    · rw [if_pos ⟨e, e2⟩, if_pos e2]
    · rw [if_neg (fun q => e2 q.2), if_neg e2]
  · rw [if_neg e, if_neg (fun q => e q.1)]
theorem c_X8_goesOn {l : Launch} {w : zE} (J : zJ w) {M : zM} {o nt np : Nat} (hk : zk o = 8) (ho : o = 138) (hnt : M.1 o 0 = nI nt) (h10 : nt ≤ 10) (hnp : M.1 o 1 = nI np) (h8 : np ≤ 8) (kd : kdOK (M.1 (o + 1))) (tv : tv9 nt (M.1 (o + 3))) : zCv l w yX8_goesOn cX8_goesOn 3 5 [.ref (w.2.2 o)] M (fun M2 => M2 = zr M o (passM (rbM (M.1 o)) (M.1 (o + 1)) (M.1 (o + 2)) np (M.1 o 7) (coinF (M.1 o 8) (M.1 (o + 3) 3)) (M.1 (o + 3), M.1 o 18)).1 (passM (rbM (M.1 o)) (M.1 (o + 1)) (M.1 (o + 2)) np (M.1 o 7) (coinF (M.1 o 8) (M.1 (o + 3) 3)) (M.1 (o + 3), M.1 o 18)).2) := by
  obtain ⟨hz1, hz2, hz3, hz4, hz5, hz6, hz7, hz8, hz9, hz10, hz11, hz12, hz13, hz14, hz15⟩ := zn8 ho
  obtain ⟨v0, v5, vm⟩ := id tv
  refine zCv_of J zm_X8_goesOn [some (.ref (w.2.2 o)), none, none] (Nat.le_of_ble_eq_true rfl) rfl (fun g hg F X => ?_)
  subst hg
  generalize hc : coinF (M.1 o 8) (M.1 (o + 3) 3) = c at X
  have e0 : rbM (M.1 o) 0 = nI nt := hnt
  have q1 : ∀ T rf, (zr M o T rf).1 (o + 1) = M.1 (o + 1) := fun T rf => zr_off (by omega) (by omega)
  have q2 : ∀ T rf, (zr M o T rf).1 (o + 2) = M.1 (o + 2) := fun T rf => zr_off (by omega) (by omega)
  have f0 : ∀ T rf, (zr M o T rf).1 o 0 = M.1 o 0 := fun T rf => zr_of M o T rf (by decide)
  have f1 : ∀ T rf, (zr M o T rf).1 o 1 = M.1 o 1 := fun T rf => zr_of M o T rf (by decide)
  have f6 : ∀ T rf, (zr M o T rf).1 o 6 = M.1 o 6 := fun T rf => zr_of M o T rf (by decide)
  have f7 : ∀ T rf, (zr M o T rf).1 o 7 = M.1 o 7 := fun T rf => zr_of M o T rf (by decide)
  have f8 : ∀ T rf, (zr M o T rf).1 o 8 = M.1 o 8 := fun T rf => zr_of M o T rf (by decide)
  have hn4 : ∀ h, h < 10 → ¬ (nI h = -4) := by decide
  have tail2 : ∀ (s : zF1 × Int32) (x2 : Option Value), zok [none, none, x2] 2 = true → tv9 nt s.1 → s.1 3 = M.1 (o + 3) 3 → endM (rbM (M.1 o)) (M.1 (o + 1)) s = passM (rbM (M.1 o)) (M.1 (o + 1)) (M.1 (o + 2)) np (M.1 o 7) c (M.1 (o + 3), M.1 o 18) → ZW w g 3 110 [some (.ref (w.2.2 o)), some (.int (M.1 (o + 3) 3)), x2] [] (zr M o s.1 s.2) := by
    intro s x2 hx2 ts h3 he
    have ew : ∀ T, wellF (rbM (M.1 o)) (M.1 (o + 1)) s.1 = T → zr M o (va_up T 3 (T 3 + 1)) s.2 = zr M o (passM (rbM (M.1 o)) (M.1 (o + 1)) (M.1 (o + 2)) np (M.1 o 7) c (M.1 (o + 3), M.1 o 18)).1 (passM (rbM (M.1 o)) (M.1 (o + 1)) (M.1 (o + 2)) np (M.1 o 7) c (M.1 (o + 3), M.1 o 18)).2 := by
      intro T hT
      rw [← he]
      unfold endM
      rw [hT]
    rcases vx_in ts.1 h10 with ⟨a0, b0⟩ | ⟨h, hh, a0, b0⟩
    · have e1 := ew s.1 (by unfold wellF; rw [e0]; exact if_neg (fun q => b0 q.2.1))
      refine z_aload_n F dX8_goesOn_110 rfl ?_
      refine zg_X8_well F (by with_reducible assumption) fl_X8_56 dX8_goesOn_111 ?_
      try simp only [zr_T, f6]
      refine z_iload_n F dX8_goesOn_114 rfl ?_
      refine z_ic_ne (tgt := 154) F dX8_goesOn_115 (by decide) (fun h_115 => ?_) (fun h_115 => ?_)
      · try simp only [zr_T, f6] at h_115
        refine z_aload_n F dX8_goesOn_154 rfl ?_
        refine zg_X8_now F (by with_reducible assumption) fl_X8_16 dX8_goesOn_155 (fun hk_155 => ?_)
        refine z_iconst (v := 3) F dX8_goesOn_158 (by decide) ?_
        refine z_dup2 F dX8_goesOn_159 rfl rfl ?_
        refine z_iald10n (q := 3) F (by with_reducible assumption) (by decide) (by rw [hz3]; omega) dX8_goesOn_160 ?_
        try simp only [zr_T, f6]
        refine z_iconst (v := 1) F dX8_goesOn_161 (by decide) ?_
        refine z_iadd F dX8_goesOn_162 ?_
        refine z_iast10n (q := 3) F (by with_reducible assumption) (by decide) (by rw [hz3]; omega) dX8_goesOn_163 ?_
        refine z_vret F X dX8_goesOn_164 ?_
        rw [zs_zr]
        exact e1
      · try simp only [zr_T, f6] at h_115
        refine z_aload_n F dX8_goesOn_118 rfl ?_
        refine zg_X8_now F (by with_reducible assumption) fl_X8_16 dX8_goesOn_119 (fun hk_119 => ?_)
        refine z_iconst (v := 0) F dX8_goesOn_122 (by decide) ?_
        refine z_iald10n (q := 0) F (by with_reducible assumption) (by decide) (by rw [hz3]; omega) dX8_goesOn_123 ?_
        try simp only [zr_T, f6]
        refine z_bipush (v := (-4)) F dX8_goesOn_124 (by decide) ?_
        refine z_ic_eq (tgt := 154) F dX8_goesOn_126 (by decide) (fun h_126 => ?_) (fun h_126 => absurd h_126 (not_not_intro a0))
        refine z_aload_n F dX8_goesOn_154 rfl ?_
        refine zg_X8_now F (by with_reducible assumption) fl_X8_16 dX8_goesOn_155 (fun hk_155 => ?_)
        refine z_iconst (v := 3) F dX8_goesOn_158 (by decide) ?_
        refine z_dup2 F dX8_goesOn_159 rfl rfl ?_
        refine z_iald10n (q := 3) F (by with_reducible assumption) (by decide) (by rw [hz3]; omega) dX8_goesOn_160 ?_
        try simp only [zr_T, f6]
        refine z_iconst (v := 1) F dX8_goesOn_161 (by decide) ?_
        refine z_iadd F dX8_goesOn_162 ?_
        refine z_iast10n (q := 3) F (by with_reducible assumption) (by decide) (by rw [hz3]; omega) dX8_goesOn_163 ?_
        refine z_vret F X dX8_goesOn_164 ?_
        rw [zs_zr]
        exact e1
    · have hco : coinF ((zr M o s.1 s.2).1 o 8) ((zr M o s.1 s.2).1 (o + 3) 3) = c := by rw [f8, zr_T, h3, hc]
      have cl : (s.1 0).toNatClampNeg = h := by rw [a0]; exact nI_clamp (by omega)
      refine z_aload_n F dX8_goesOn_110 rfl ?_
      refine zg_X8_well F (by with_reducible assumption) fl_X8_56 dX8_goesOn_111 ?_
      try simp only [zr_T, f6]
      refine z_iload_n F dX8_goesOn_114 rfl ?_
      refine z_ic_ne (tgt := 154) F dX8_goesOn_115 (by decide) (fun h_115 => ?_) (fun h_115 => ?_)
      · try simp only [zr_T, f6] at h_115
        refine z_aload_n F dX8_goesOn_154 rfl ?_
        refine zg_X8_now F (by with_reducible assumption) fl_X8_16 dX8_goesOn_155 (fun hk_155 => ?_)
        refine z_iconst (v := 3) F dX8_goesOn_158 (by decide) ?_
        refine z_dup2 F dX8_goesOn_159 rfl rfl ?_
        refine z_iald10n (q := 3) F (by with_reducible assumption) (by decide) (by rw [hz3]; omega) dX8_goesOn_160 ?_
        try simp only [zr_T, f6]
        refine z_iconst (v := 1) F dX8_goesOn_161 (by decide) ?_
        refine z_iadd F dX8_goesOn_162 ?_
        refine z_iast10n (q := 3) F (by with_reducible assumption) (by decide) (by rw [hz3]; omega) dX8_goesOn_163 ?_
        refine z_vret F X dX8_goesOn_164 ?_
        rw [zs_zr]
        refine ew s.1 ?_
        unfold wellF
        exact if_neg (fun q => h_115 (q.1.trans h3))
      · try simp only [zr_T, f6] at h_115
        refine z_aload_n F dX8_goesOn_118 rfl ?_
        refine zg_X8_now F (by with_reducible assumption) fl_X8_16 dX8_goesOn_119 (fun hk_119 => ?_)
        refine z_iconst (v := 0) F dX8_goesOn_122 (by decide) ?_
        refine z_iald10n (q := 0) F (by with_reducible assumption) (by decide) (by rw [hz3]; omega) dX8_goesOn_123 ?_
        try simp only [zr_T, f6]
        refine z_bipush (v := (-4)) F dX8_goesOn_124 (by decide) ?_
        refine z_ic_eq (tgt := 154) F dX8_goesOn_126 (by decide) (fun h_126 => absurd h_126 (by rw [a0]; exact hn4 h (by omega))) (fun h_126 => ?_)
        refine z_aload_n F dX8_goesOn_129 rfl ?_
        refine z_iconst (v := 0) F dX8_goesOn_130 (by decide) ?_
        refine z_callVi F (c_X8_own J hk ho (h := h) (by rw [zr_T]; exact a0) (by omega) (by rw [q1]; exact kd) (Or.inl rfl)) zm_X8_own zv_X8_own ml_X8_170 (by with_reducible assumption) (by decide) rfl rfl rfl (Nat.le_of_ble_eq_true rfl) dX8_goesOn_131 (by omega) (fun r_131 M_131 h_131 => ?_)
        obtain ⟨e_131, rfl⟩ := h_131
        replace e_131 := Eq.symm e_131
        subst e_131
        rw [timesF_0 (by decide), Int32.mul_one, q1, zr_T]
        refine z_bipush (v := 10) F dX8_goesOn_134 (by decide) ?_
        refine z_ic_lt (tgt := 154) F dX8_goesOn_136 (by decide) (fun h_136 => ?_) (fun h_136 => ?_)
        · try simp only [zr_T, f6] at h_136
          refine z_aload_n F dX8_goesOn_154 rfl ?_
          refine zg_X8_now F (by with_reducible assumption) fl_X8_16 dX8_goesOn_155 (fun hk_155 => ?_)
          refine z_iconst (v := 3) F dX8_goesOn_158 (by decide) ?_
          refine z_dup2 F dX8_goesOn_159 rfl rfl ?_
          refine z_iald10n (q := 3) F (by with_reducible assumption) (by decide) (by rw [hz3]; omega) dX8_goesOn_160 ?_
          try simp only [zr_T, f6]
          refine z_iconst (v := 1) F dX8_goesOn_161 (by decide) ?_
          refine z_iadd F dX8_goesOn_162 ?_
          refine z_iast10n (q := 3) F (by with_reducible assumption) (by decide) (by rw [hz3]; omega) dX8_goesOn_163 ?_
          refine z_vret F X dX8_goesOn_164 ?_
          rw [zs_zr]
          refine ew s.1 ?_
          unfold wellF
          rw [cl]
          exact if_neg (fun q => absurd q.2.2 (Int32.not_le.mpr h_136))
        · try simp only [zr_T, f6] at h_136
          refine z_aload_n F dX8_goesOn_139 rfl ?_
          refine zg_X8_now F (by with_reducible assumption) fl_X8_16 dX8_goesOn_140 (fun hk_140 => ?_)
          refine z_iconst (v := 0) F dX8_goesOn_143 (by decide) ?_
          refine z_bipush (v := (-4)) F dX8_goesOn_144 (by decide) ?_
          refine z_iast10n (q := 0) F (by with_reducible assumption) (by decide) (by rw [hz3]; omega) dX8_goesOn_146 ?_
          refine z_aload_n F dX8_goesOn_147 rfl ?_
          refine zg_X8_now F (by with_reducible assumption) fl_X8_16 dX8_goesOn_148 (fun hk_148 => ?_)
          refine z_iconst (v := 1) F dX8_goesOn_151 (by decide) ?_
          refine z_iconst (v := 0) F dX8_goesOn_152 (by decide) ?_
          refine z_iast10n (q := 1) F (by with_reducible assumption) (by decide) (by rw [hz3]; omega) dX8_goesOn_153 ?_
          refine z_aload_n F dX8_goesOn_154 rfl ?_
          refine zg_X8_now F (by with_reducible assumption) fl_X8_16 dX8_goesOn_155 (fun hk_155 => ?_)
          refine z_iconst (v := 3) F dX8_goesOn_158 (by decide) ?_
          refine z_dup2 F dX8_goesOn_159 rfl rfl ?_
          refine z_iald10n (q := 3) F (by with_reducible assumption) (by decide) (by rw [hz3]; omega) dX8_goesOn_160 ?_
          try simp only [zr_T, f6]
          refine z_iconst (v := 1) F dX8_goesOn_161 (by decide) ?_
          refine z_iadd F dX8_goesOn_162 ?_
          refine z_iast10n (q := 3) F (by with_reducible assumption) (by decide) (by rw [hz3]; omega) dX8_goesOn_163 ?_
          refine z_vret F X dX8_goesOn_164 ?_
          simp only [zs_zr, zr_T]
          refine ew _ ?_
          unfold wellF
          rw [cl, e0]
          exact if_pos ⟨h_115.trans h3.symm, b0, h_136⟩
  have tail1 : ∀ (s : zF1 × Int32) (x2 : Option Value), zok [none, none, x2] 2 = true → tv9 nt s.1 → s.1 3 = M.1 (o + 3) 3 → endM (rbM (M.1 o)) (M.1 (o + 1)) (moreF (rbM (M.1 o)) (M.1 (o + 1)) (M.1 o 7) c s) = passM (rbM (M.1 o)) (M.1 (o + 1)) (M.1 (o + 2)) np (M.1 o 7) c (M.1 (o + 3), M.1 o 18) → ZW w g 3 95 [some (.ref (w.2.2 o)), some (.int (M.1 (o + 3) 3)), x2] [] (zr M o s.1 s.2) := by
    intro s x2 hx2 ts h3 he
    have hco : coinF ((zr M o s.1 s.2).1 o 8) ((zr M o s.1 s.2).1 (o + 3) 3) = c := by rw [f8, zr_T, h3, hc]
    obtain ⟨m1, m2⟩ := more_ok ts (rbM (M.1 o)) (M.1 (o + 1)) (M.1 o 7) c
    rw [moreF_ask] at he m1 m2
    refine z_aload_n F dX8_goesOn_95 rfl ?_
    refine zg_X8_more F (by with_reducible assumption) fl_X8_186 dX8_goesOn_96 ?_
    try simp only [f7]
    refine z_iload_n F dX8_goesOn_99 rfl ?_
    refine z_ic_ne (tgt := 110) F dX8_goesOn_100 (by decide) (fun h_100 => ?_) (fun h_100 => ?_)
    · try simp only [f7] at h_100
      rw [if_neg (by rw [h3]; exact h_100)] at he m1 m2
      exact tail2 s x2 hx2 ts h3 he
    · try simp only [f7] at h_100
      refine z_aload_n F dX8_goesOn_103 rfl ?_
      refine z_bipush (v := 8) F dX8_goesOn_104 (by decide) ?_
      refine z_iconst (v := 0) F dX8_goesOn_106 (by decide) ?_
      refine z_callVv F (c_X8_asks (nt := nt) (p := 8) J hk ho (by rw [f0]; exact hnt) h10 (by decide) (by rw [q1]; exact kd) (by rw [zr_T]; exact ts)) zm_X8_asks zv_X8_asks ml_X8_182 (by with_reducible assumption) (by decide) rfl rfl rfl (Nat.le_of_ble_eq_true rfl) dX8_goesOn_107 (by omega) (fun M_107 h_107 => ?_)
      replace h_107 := Eq.symm h_107
      subst h_107
      rw [if_pos (by rw [h3]; exact h_100)] at he m1 m2
      rw [hco, rbM_zr, q1, zr_T, zr_rf, zr_zr]
      exact tail2 _ x2 hx2 m1 (m2.trans h3) he
  have key : ∀ (j k : Nat) (s : zF1 × Int32), k + j = np → tv9 nt s.1 → s.1 3 = M.1 (o + 3) 3 → s = peoF (rbM (M.1 o)) (M.1 (o + 1)) (M.1 (o + 2)) c k (feelsF (rbM (M.1 o)) (M.1 (o + 1)) c (M.1 (o + 3)), M.1 o 18) → ZW w g 3 54 [some (.ref (w.2.2 o)), some (.int (M.1 (o + 3) 3)), some (.int (nI k))] [] (zr M o s.1 s.2) := by
    intro j
    induction j with
    | zero =>
      intro k s hkj ts h3 he
      have e : k = np := by omega
      subst e
      refine z_iload_n F dX8_goesOn_54 rfl ?_
      refine z_aload_n F dX8_goesOn_55 rfl ?_
      refine zg_X8_people F (by with_reducible assumption) fl_X8_76 dX8_goesOn_56 ?_
      try simp only [f1, hnp]
      refine z_ic_ge (tgt := 95) F dX8_goesOn_59 (by decide) (fun h_59 => ?_) (fun h_59 => absurd h_59 (nlt (Int32.le_refl _)))
      exact tail1 s _ rfl ts h3 (by rw [he]; rfl)
    | succ j ih =>
      intro k s hkj ts h3 he
      have hco : coinF ((zr M o s.1 s.2).1 o 8) ((zr M o s.1 s.2).1 (o + 3) 3) = c := by rw [f8, zr_T, h3, hc]
      obtain ⟨m1, m2⟩ := step_ok ts (rbM (M.1 o)) (M.1 (o + 1)) (M.1 (o + 2)) c (k := k) (by omega)
      have ih2 := ih (k + 1) (stepF (rbM (M.1 o)) (M.1 (o + 1)) (M.1 (o + 2)) c k s) (by omega) m1 (m2.trans h3) (by rw [he]; rfl)
      rw [stepF_ask, ← nI_1] at ih2
      refine z_iload_n F dX8_goesOn_54 rfl ?_
      refine z_aload_n F dX8_goesOn_55 rfl ?_
      refine zg_X8_people F (by with_reducible assumption) fl_X8_76 dX8_goesOn_56 ?_
      try simp only [f1, hnp, q2]
      refine z_ic_ge (tgt := 95) F dX8_goesOn_59 (by decide) (fun h_59 => absurd h_59 (nle (nI_lt (by omega) (by omega)))) (fun h_59 => ?_)
      refine z_aload_n F dX8_goesOn_62 rfl ?_
      refine zg_X8_person F (by with_reducible assumption) fl_X8_13 dX8_goesOn_63 (fun hk_63 => ?_)
      refine z_iconst (v := 2) F dX8_goesOn_66 (by decide) ?_
      refine z_iload_n F dX8_goesOn_67 rfl ?_
      refine z_imul F dX8_goesOn_68 ?_
      refine z_iald10n (q := (2 * k)) F (by with_reducible assumption) (by first | with_reducible rfl | (simp only [n4, n2, n3, n5, n14, n16, na1, na2, na3, nI_add, nI_1, nI_pred]; done) | (simp only [n4, n2, n3, n5, n14, n16, na1, na2, na3, nI_add, nI_1, nI_pred, Nat.add_assoc, Nat.add_comm, Nat.add_left_comm]; done)) (by rw [hz2]; omega) dX8_goesOn_69 ?_
      try simp only [f1, hnp, q2]
      refine z_iload_n F dX8_goesOn_70 rfl ?_
      refine z_ic_ne (tgt := 89) F dX8_goesOn_71 (by decide) (fun h_71 => ?_) (fun h_71 => ?_)
      · try simp only [f1, hnp, q2] at h_71
        refine z_iincc (c := 1) (lv' := [_, _, _]) F dX8_goesOn_89 rfl (by decide) (by decide) rfl rfl ?_
        refine z_goto (tgt := 54) F dX8_goesOn_92 (by decide) ?_
        rw [if_neg (by rw [h3]; exact h_71)] at ih2
        exact ih2
      · try simp only [f1, hnp, q2] at h_71
        refine z_aload_n F dX8_goesOn_74 rfl ?_
        refine z_iload_n F dX8_goesOn_75 rfl ?_
        refine z_aload_n F dX8_goesOn_76 rfl ?_
        refine zg_X8_person F (by with_reducible assumption) fl_X8_13 dX8_goesOn_77 (fun hk_77 => ?_)
        refine z_iconst (v := 2) F dX8_goesOn_80 (by decide) ?_
        refine z_iload_n F dX8_goesOn_81 rfl ?_
        refine z_imul F dX8_goesOn_82 ?_
        refine z_iconst (v := 1) F dX8_goesOn_83 (by decide) ?_
        refine z_iadd F dX8_goesOn_84 ?_
        refine z_iald10n (q := ((2 * k) + 1)) F (by with_reducible assumption) (by first | with_reducible rfl | (simp only [n4, n2, n3, n5, n14, n16, na1, na2, na3, nI_add, nI_1, nI_pred]; done) | (simp only [n4, n2, n3, n5, n14, n16, na1, na2, na3, nI_add, nI_1, nI_pred, Nat.add_assoc, Nat.add_comm, Nat.add_left_comm]; done)) (by rw [hz2]; omega) dX8_goesOn_85 ?_
        try simp only [f1, hnp, q2]
        refine z_callVv F (c_X8_asks (nt := nt) (p := k) J hk ho (by rw [f0]; exact hnt) h10 (by omega) (by rw [q1]; exact kd) (by rw [zr_T]; exact ts)) zm_X8_asks zv_X8_asks ml_X8_182 (by with_reducible assumption) (by decide) rfl rfl rfl (Nat.le_of_ble_eq_true rfl) dX8_goesOn_86 (by omega) (fun M_86 h_86 => ?_)
        replace h_86 := Eq.symm h_86
        subst h_86
        refine z_iincc (c := 1) (lv' := [_, _, _]) F dX8_goesOn_89 rfl (by decide) (by decide) rfl rfl ?_
        refine z_goto (tgt := 54) F dX8_goesOn_92 (by decide) ?_
        rw [if_pos (by rw [h3]; exact h_71)] at ih2
        rw [hco, rbM_zr, q1, zr_T, zr_rf, zr_zr]
        exact ih2
  have hst : ∀ T, feelsF (rbM (M.1 o)) (M.1 (o + 1)) c (M.1 (o + 3)) = T → ZW w g 3 54 [some (.ref (w.2.2 o)), some (.int (M.1 (o + 3) 3)), some (.int (nI 0))] [] (zr M o T (M.1 o 18)) := by
    intro T hT
    have k0 := key np 0 (feelsF (rbM (M.1 o)) (M.1 (o + 1)) c (M.1 (o + 3)), M.1 o 18) (by omega) (tv9_feel tv _ _ _) (feels_3 _ _ _ _) rfl
    rw [hT] at k0
    exact k0
  rcases vx_in v0 h10 with ⟨a0, b0⟩ | ⟨h, hh, a0, b0⟩
  · have k0 := hst (M.1 (o + 3)) (by unfold feelsF; rw [e0]; exact if_neg b0)
    rw [zr_self] at k0
    refine z_aload_n F dX8_goesOn_0 rfl ?_
    refine zg_X8_now F (by with_reducible assumption) fl_X8_16 dX8_goesOn_1 (fun hk_1 => ?_)
    refine z_iconst (v := 3) F dX8_goesOn_4 (by decide) ?_
    refine z_iald10n (q := 3) F (by with_reducible assumption) (by decide) (by rw [hz3]; omega) dX8_goesOn_5 ?_
    refine z_istore_n (lv' := [_, _, _]) F dX8_goesOn_6 (by decide) rfl rfl ?_
    refine z_aload_n F dX8_goesOn_7 rfl ?_
    refine zg_X8_now F (by with_reducible assumption) fl_X8_16 dX8_goesOn_8 (fun hk_8 => ?_)
    refine z_iconst (v := 0) F dX8_goesOn_11 (by decide) ?_
    refine z_iald10n (q := 0) F (by with_reducible assumption) (by decide) (by rw [hz3]; omega) dX8_goesOn_12 ?_
    refine z_bipush (v := (-4)) F dX8_goesOn_13 (by decide) ?_
    refine z_ic_eq (tgt := 52) F dX8_goesOn_15 (by decide) (fun h_15 => ?_) (fun h_15 => absurd h_15 (not_not_intro a0))
    refine z_iconst (v := 0) F dX8_goesOn_52 (by decide) ?_
    refine z_istore_n (lv' := [_, _, _]) F dX8_goesOn_53 (by decide) rfl rfl ?_
    exact k0
  · have cl : (M.1 (o + 3) 0).toNatClampNeg = h := by rw [a0]; exact nI_clamp (by omega)
    have e1 : zs M (o + 3) 1 (M.1 (o + 3) 1 + 1) = zr M o (va_up (M.1 (o + 3)) 1 (M.1 (o + 3) 1 + 1)) (M.1 o 18) := by
      rw [← za_zr, zs_za]
    have p0 : va_up (M.1 (o + 3)) 1 (M.1 (o + 3) 1 + 1) 0 = nI h := by rw [va_up_ne _ _ (by decide)]; exact a0
    have p1 : va_up (M.1 (o + 3)) 1 (M.1 (o + 3) 1 + 1) 1 = M.1 (o + 3) 1 + 1 := va_up_self _ _ _
    have p3 : va_up (M.1 (o + 3)) 1 (M.1 (o + 3) 1 + 1) 3 = M.1 (o + 3) 3 := va_up_ne _ _ (by decide)
    have k0 := hst (feelF (M.1 (o + 1)) c (M.1 (o + 3))) (by unfold feelsF; rw [e0]; exact if_pos b0)
    unfold feelF at k0
    rw [cl] at k0
    refine z_aload_n F dX8_goesOn_0 rfl ?_
    refine zg_X8_now F (by with_reducible assumption) fl_X8_16 dX8_goesOn_1 (fun hk_1 => ?_)
    refine z_iconst (v := 3) F dX8_goesOn_4 (by decide) ?_
    refine z_iald10n (q := 3) F (by with_reducible assumption) (by decide) (by rw [hz3]; omega) dX8_goesOn_5 ?_
    refine z_istore_n (lv' := [_, _, _]) F dX8_goesOn_6 (by decide) rfl rfl ?_
    refine z_aload_n F dX8_goesOn_7 rfl ?_
    refine zg_X8_now F (by with_reducible assumption) fl_X8_16 dX8_goesOn_8 (fun hk_8 => ?_)
    refine z_iconst (v := 0) F dX8_goesOn_11 (by decide) ?_
    refine z_iald10n (q := 0) F (by with_reducible assumption) (by decide) (by rw [hz3]; omega) dX8_goesOn_12 ?_
    refine z_bipush (v := (-4)) F dX8_goesOn_13 (by decide) ?_
    refine z_ic_eq (tgt := 52) F dX8_goesOn_15 (by decide) (fun h_15 => absurd h_15 (by rw [a0]; exact hn4 h (by omega))) (fun h_15 => ?_)
    refine z_aload_n F dX8_goesOn_18 rfl ?_
    refine zg_X8_now F (by with_reducible assumption) fl_X8_16 dX8_goesOn_19 (fun hk_19 => ?_)
    refine z_iconst (v := 1) F dX8_goesOn_22 (by decide) ?_
    refine z_dup2 F dX8_goesOn_23 rfl rfl ?_
    refine z_iald10n (q := 1) F (by with_reducible assumption) (by decide) (by rw [hz3]; omega) dX8_goesOn_24 ?_
    refine z_iconst (v := 1) F dX8_goesOn_25 (by decide) ?_
    refine z_iadd F dX8_goesOn_26 ?_
    refine z_iast10n (q := 1) F (by with_reducible assumption) (by decide) (by rw [hz3]; omega) dX8_goesOn_27 ?_
    rw [e1]
    refine z_aload_n F dX8_goesOn_28 rfl ?_
    refine zg_X8_now F (by with_reducible assumption) fl_X8_16 dX8_goesOn_29 (fun hk_29 => ?_)
    refine z_iconst (v := 2) F dX8_goesOn_32 (by decide) ?_
    refine z_aload_n F dX8_goesOn_33 rfl ?_
    refine z_iconst (v := 0) F dX8_goesOn_34 (by decide) ?_
    refine z_callVi F (c_X8_own J hk ho (h := h) (by rw [zr_T]; exact p0) (by omega) (by rw [q1]; exact kd) (by first | exact Or.inl rfl | exact Or.inr rfl)) zm_X8_own zv_X8_own ml_X8_170 (by with_reducible assumption) (by decide) rfl rfl rfl (Nat.le_of_ble_eq_true rfl) dX8_goesOn_35 (by omega) (fun r_35 M_35 h_35 => ?_)
    obtain ⟨e_35, rfl⟩ := h_35
    replace e_35 := Eq.symm e_35
    subst e_35
    refine z_aload_n F dX8_goesOn_38 rfl ?_
    refine z_iconst (v := 1) F dX8_goesOn_39 (by decide) ?_
    refine z_callVi F (c_X8_own J hk ho (h := h) (by rw [zr_T]; exact p0) (by omega) (by rw [q1]; exact kd) (by first | exact Or.inl rfl | exact Or.inr rfl)) zm_X8_own zv_X8_own ml_X8_170 (by with_reducible assumption) (by decide) rfl rfl rfl (Nat.le_of_ble_eq_true rfl) dX8_goesOn_40 (by omega) (fun r_40 M_40 h_40 => ?_)
    obtain ⟨e_40, rfl⟩ := h_40
    replace e_40 := Eq.symm e_40
    subst e_40
    rw [timesF_0 (m := 0) (by decide), timesF_1 (m := 1) rfl, Int32.mul_one, q1, zr_T, f8, p1, p3, hc]
    refine z_ic_lt (tgt := 50) F dX8_goesOn_43 (by decide) (fun h_43 => ?_) (fun h_43 => ?_)
    · refine z_iconst (v := 1) F dX8_goesOn_50 (by decide) ?_
      refine z_iast10n (q := 2) F (by with_reducible assumption) (by decide) (by rw [hz3]; omega) dX8_goesOn_51 ?_
      refine z_iconst (v := 0) F dX8_goesOn_52 (by decide) ?_
      refine z_istore_n (lv' := [_, _, _]) F dX8_goesOn_53 (by decide) rfl rfl ?_
      rw [if_neg (Int32.not_le.mpr h_43)] at k0
      rw [zs_zr]
      exact k0
    · refine z_iconst (v := 0) F dX8_goesOn_46 (by decide) ?_
      refine z_goto (tgt := 51) F dX8_goesOn_47 (by decide) ?_
      refine z_iast10n (q := 2) F (by with_reducible assumption) (by decide) (by rw [hz3]; omega) dX8_goesOn_51 ?_
      refine z_iconst (v := 0) F dX8_goesOn_52 (by decide) ?_
      refine z_istore_n (lv' := [_, _, _]) F dX8_goesOn_53 (by decide) rfl rfl ?_
      rw [if_pos h_43] at k0
      rw [zs_zr]
      exact k0
theorem c_X8_goesHome {l : Launch} {w : zE} (J : zJ w) {M : zM} {o nt np a : Nat} (hk : zk o = 8) (ho : o = 138) (hnt : M.1 o 0 = nI nt) (h10 : nt ≤ 10) (hnp : M.1 o 1 = nI np) (h8 : np ≤ 8) (kd : kdOK (M.1 (o + 1))) (tv : tv9 nt (M.1 (o + 3))) (ha : M.1 (o + 3) 3 = nI a) (h12 : a ≤ 12) : zCv l w yX8_goesHome cX8_goesHome 1 6 [.ref (w.2.2 o)] M (fun M2 => M2 = zr M o (homeM (rbM (M.1 o)) (M.1 (o + 1)) (M.1 (o + 2)) np (M.1 o 7) (M.1 o 8) (12 - a) (M.1 (o + 3), -4)).1 (homeM (rbM (M.1 o)) (M.1 (o + 1)) (M.1 (o + 2)) np (M.1 o 7) (M.1 o 8) (12 - a) (M.1 (o + 3), -4)).2) := by
  obtain ⟨hz1, hz2, hz3, hz4, hz5, hz6, hz7, hz8, hz9, hz10, hz11, hz12, hz13, hz14, hz15⟩ := zn8 ho
  have q1 : ∀ T rf, (zr M o T rf).1 (o + 1) = M.1 (o + 1) := fun T rf => zr_off (by omega) (by omega)
  have q2 : ∀ T rf, (zr M o T rf).1 (o + 2) = M.1 (o + 2) := fun T rf => zr_off (by omega) (by omega)
  have f0 : ∀ T rf, (zr M o T rf).1 o 0 = M.1 o 0 := fun T rf => zr_of M o T rf (by decide)
  have f1 : ∀ T rf, (zr M o T rf).1 o 1 = M.1 o 1 := fun T rf => zr_of M o T rf (by decide)
  have f7 : ∀ T rf, (zr M o T rf).1 o 7 = M.1 o 7 := fun T rf => zr_of M o T rf (by decide)
  have f8 : ∀ T rf, (zr M o T rf).1 o 8 = M.1 o 8 := fun T rf => zr_of M o T rf (by decide)
  refine zCv_of J zm_X8_goesHome [some (.ref (w.2.2 o))] (Nat.le_of_ble_eq_true rfl) rfl (fun g hg F X => ?_)
  subst hg
  generalize hR : homeM (rbM (M.1 o)) (M.1 (o + 1)) (M.1 (o + 2)) np (M.1 o 7) (M.1 o 8) (12 - a) (M.1 (o + 3), -4) = R at X
  have key : ∀ (j k : Nat) (s : zF1 × Int32), k + j = 12 → tv9 nt s.1 → s.1 3 = nI k → homeM (rbM (M.1 o)) (M.1 (o + 1)) (M.1 (o + 2)) np (M.1 o 7) (M.1 o 8) j s = R → ZW w g 1 6 [some (.ref (w.2.2 o))] [] (zr M o s.1 s.2) := by
    intro j
    induction j with
    | zero =>
      intro k s hkj ts h3 he
      have e : k = 12 := by omega
      subst e
      have he2 : s = R := he
      subst he2
      refine z_aload_n F dX8_goesHome_6 rfl ?_
      refine zg_X8_now F (by with_reducible assumption) fl_X8_16 dX8_goesHome_7 (fun hk_7 => ?_)
      refine z_iconst (v := 3) F dX8_goesHome_10 (by decide) ?_
      refine z_iald10n (q := 3) F (by with_reducible assumption) (by decide) (by rw [hz3]; omega) dX8_goesHome_11 ?_
      try simp only [zr_T, h3]
      refine z_bipush (v := 12) F dX8_goesHome_12 (by decide) ?_
      refine z_ic_ge (tgt := 24) F dX8_goesHome_14 (by decide) (fun h_14 => ?_) (fun h_14 => absurd h_14 (by decide))
      refine z_vret F X dX8_goesHome_24 ?_
      rfl
    | succ j ih =>
      intro k s hkj ts h3 he
      obtain ⟨m1, m2⟩ := pass_ok ts (rbM (M.1 o)) (M.1 (o + 1)) (M.1 (o + 2)) (np := np) (M.1 o 7) (coinF (M.1 o 8) (s.1 3)) (by omega)
      have ih2 := ih (k + 1) _ (by omega) m1 (by rw [m2, h3, nI_1]) he
      refine z_aload_n F dX8_goesHome_6 rfl ?_
      refine zg_X8_now F (by with_reducible assumption) fl_X8_16 dX8_goesHome_7 (fun hk_7 => ?_)
      refine z_iconst (v := 3) F dX8_goesHome_10 (by decide) ?_
      refine z_iald10n (q := 3) F (by with_reducible assumption) (by decide) (by rw [hz3]; omega) dX8_goesHome_11 ?_
      try simp only [zr_T, h3]
      refine z_bipush (v := 12) F dX8_goesHome_12 (by decide) ?_
      refine z_ic_ge (tgt := 24) F dX8_goesHome_14 (by decide) (fun h_14 => absurd h_14 (nle (nI_lt (b := 12) (by omega) (by decide)))) (fun h_14 => ?_)
      refine z_aload_n F dX8_goesHome_17 rfl ?_
      refine z_callVv F (c_X8_goesOn J hk ho (by rw [f0]; exact hnt) h10 (by rw [f1]; exact hnp) h8 (by rw [q1]; exact kd) (by rw [zr_T]; exact ts)) zm_X8_goesOn zv_X8_goesOn ml_X8_192 (by with_reducible assumption) (by decide) rfl rfl rfl (Nat.le_of_ble_eq_true rfl) dX8_goesHome_18 (by omega) (fun M_18 h_18 => ?_)
      replace h_18 := Eq.symm h_18
      subst h_18
      refine z_goto (tgt := 6) F dX8_goesHome_21 (by decide) ?_
      rw [rbM_zr, q1, q2, zr_T, zr_rf, f7, f8, zr_zr]
      exact ih2
  have k0 := key (12 - a) a (M.1 (o + 3), -4) (by omega) tv ha hR
  have q := zs_zro M o (M.1 (o + 3)) (M.1 o 18) (-4)
  rw [zr_self] at q
  refine z_aload_n F dX8_goesHome_0 rfl ?_
  refine z_bipush (v := (-4)) F dX8_goesHome_1 (by decide) ?_
  refine zp_X8_refused F (by with_reducible assumption) fl_X8_179 dX8_goesHome_3 ?_
  rw [q]
  exact k0
end
section
theorem cpF_up (f h : zF1) (k : Nat) {v : Int32} (hv : v = h k) : va_up (cpF k f h) k v = cpF (k + 1) f h := by
  funext q
  unfold va_up cpF
  by_cases e : q = k
  · subst e
    rw [if_pos rfl, if_pos (by omega), hv]
  · rw [if_neg e]
    by_cases e2 : q < k
    · exact (if_pos e2).trans (if_pos (show q < k + 1 by omega)).symm
    · exact (if_neg e2).trans (if_neg (show ¬ q < k + 1 by omega)).symm
theorem cpF_0 (f h : zF1) : cpF 0 f h = f := funext fun q => if_neg (Nat.not_lt_zero q)
/-- a row of the reference: what lies beyond its end may be taken as one likes -/
theorem zP_10 {w : zE} {M : zM} {H : Heap} {i : Nat} {f : zF1} (hk : zk i = 10) (h : zP w M H) (e : ∀ j, j < zn i → f j = M.1 i j) : zP w (za M i f) H := by
  intro q hq
  by_cases hqi : q = i
  · subst hqi
    have h1 := h q hq
    unfold zc at h1 ⊢
    rw [hk] at h1 ⊢
    exact zat_10 (fun j hj => by rw [za_at]; exact e j hj) h1
  · rw [show zc w (za M i f) q = zc w M q from za_other (i := i) (w := w) (by have := zk_i hk (by decide); exact this) (fun o _ => by rw [hk]; rfl) q hq hqi]
    exact h q hq
theorem z_10 {w : zE} {g : zG} {nL pc : Nat} {lv : List (Option Value)} {st : List Value} {M : zM} {i : Nat} {f : zF1} (hk : zk i = 10) (e : ∀ j, j < zn i → f j = M.1 i j) (k : ZW w g nL pc lv st (za M i f)) : ZW w g nL pc lv st M := fun H locs ls hl hP hS => k H locs ls hl (zP_10 hk hP e) hS
theorem c_X8_asides {l : Launch} {w : zE} (J : zJ w) {M : zM} {o : Nat} (hk : zk o = 8) (ho : o = 138) : zCv l w yX8_asides cX8_asides 2 0 [.ref (w.2.2 o)] M (fun M2 => M2 = za M (o + 8) (M.1 (o + 3))) := by
  obtain ⟨hz1, hz2, hz3, hz4, hz5, hz6, hz7, hz8, hz9, hz10, hz11, hz12, hz13, hz14, hz15⟩ := zn8 ho
  have k8 := zkf8 o (zk_i hk (by decide)) hk
  have e3 : ∀ f, (za M (o + 8) f).1 (o + 3) = M.1 (o + 3) := fun f => za_off _ (by omega)
  refine zCv_of J zm_X8_asides [some (.ref (w.2.2 o)), none] (Nat.le_of_ble_eq_true rfl) rfl (fun g hg F X => ?_)
  subst hg
  have key : ∀ (j k : Nat), k + j = 14 → ZW w g 2 2 [some (.ref (w.2.2 o)), some (.int (nI k))] [] (za M (o + 8) (cpF k (M.1 (o + 8)) (M.1 (o + 3)))) := by
    intro j
    induction j with
    | zero =>
      intro k hkj
      have e : k = 14 := by omega
      subst e
      refine z_10 (i := o + 8) (f := M.1 (o + 3)) k8.2.2.2.2.2.2.2.1 (fun j hj => ?_) ?_
      · rw [hz8] at hj
        rw [za_at]
        exact (if_pos hj).symm
      rw [za_za]
      refine z_iload_n F dX8_asides_2 rfl ?_
      refine z_bipush (v := 14) F dX8_asides_3 (by decide) ?_
      refine z_ic_ge (tgt := 26) F dX8_asides_5 (by decide) (fun h_5 => ?_) (fun h_5 => absurd h_5 (by decide))
      refine z_vret F X dX8_asides_26 ?_
      rfl
    | succ j ih =>
      intro k hkj
      have ih2 := ih (k + 1) (by omega)
      rw [← nI_1, ← cpF_up _ _ _ rfl] at ih2
      refine z_iload_n F dX8_asides_2 rfl ?_
      refine z_bipush (v := 14) F dX8_asides_3 (by decide) ?_
      refine z_ic_ge (tgt := 26) F dX8_asides_5 (by decide) (fun h_5 => absurd h_5 (nle (nI_lt (b := 14) (by omega) (by decide)))) (fun h_5 => ?_)
      refine z_aload_n F dX8_asides_8 rfl ?_
      refine zg_X8_aside F (by with_reducible assumption) fl_X8_31 dX8_asides_9 (fun hk_9 => ?_)
      refine z_iload_n F dX8_asides_12 rfl ?_
      refine z_aload_n F dX8_asides_13 rfl ?_
      refine zg_X8_now F (by with_reducible assumption) fl_X8_16 dX8_asides_14 (fun hk_14 => ?_)
      refine z_iload_n F dX8_asides_17 rfl ?_
      refine z_iald10n (q := k) F (by with_reducible assumption) (by first | with_reducible rfl | (simp only [n4, n2, n3, n5, n14, n16, na1, na2, na3, nI_add, nI_1, nI_pred]; done) | (simp only [n4, n2, n3, n5, n14, n16, na1, na2, na3, nI_add, nI_1, nI_pred, Nat.add_assoc, Nat.add_comm, Nat.add_left_comm]; done)) (by rw [hz3]; omega) dX8_asides_18 ?_
      try simp only [e3]
      refine z_iast10n (q := k) F (by with_reducible assumption) (by first | with_reducible rfl | (simp only [n4, n2, n3, n5, n14, n16, na1, na2, na3, nI_add, nI_1, nI_pred]; done) | (simp only [n4, n2, n3, n5, n14, n16, na1, na2, na3, nI_add, nI_1, nI_pred, Nat.add_assoc, Nat.add_comm, Nat.add_left_comm]; done)) (by rw [hz8]; omega) dX8_asides_19 ?_
      refine z_iincc (c := 1) (lv' := [_, _]) F dX8_asides_20 rfl (by decide) (by decide) rfl rfl ?_
      refine z_goto (tgt := 2) F dX8_asides_23 (by decide) ?_
      rw [zs_za, za_at, za_za]
      exact ih2
  have k0 := key 14 0 (by omega)
  rw [cpF_0, za_self] at k0
  refine z_iconst (v := 0) F dX8_asides_0 (by decide) ?_
  refine z_istore_n (lv' := [_, _]) F dX8_asides_1 (by decide) rfl rfl ?_
  exact k0
theorem c_X8_backs {l : Launch} {w : zE} (J : zJ w) {M : zM} {o : Nat} (hk : zk o = 8) (ho : o = 138) : zCv l w yX8_backs cX8_backs 2 0 [.ref (w.2.2 o)] M (fun M2 => M2 = zs (zs (za M (o + 3) (M.1 (o + 8))) o 7 (-4)) o 8 0) := by
  obtain ⟨hz1, hz2, hz3, hz4, hz5, hz6, hz7, hz8, hz9, hz10, hz11, hz12, hz13, hz14, hz15⟩ := zn8 ho
  have k8 := zkf8 o (zk_i hk (by decide)) hk
  have e3 : ∀ f, (za M (o + 3) f).1 (o + 8) = M.1 (o + 8) := fun f => za_off _ (by omega)
  refine zCv_of J zm_X8_backs [some (.ref (w.2.2 o)), none] (Nat.le_of_ble_eq_true rfl) rfl (fun g hg F X => ?_)
  subst hg
  have key : ∀ (j k : Nat), k + j = 14 → ZW w g 2 2 [some (.ref (w.2.2 o)), some (.int (nI k))] [] (za M (o + 3) (cpF k (M.1 (o + 3)) (M.1 (o + 8)))) := by
    intro j
    induction j with
    | zero =>
      intro k hkj
      have e : k = 14 := by omega
      subst e
      refine z_10 (i := o + 3) (f := M.1 (o + 8)) k8.2.2.1 (fun j hj => ?_) ?_
      · rw [hz3] at hj
        rw [za_at]
        exact (if_pos hj).symm
      rw [za_za]
      refine z_iload_n F dX8_backs_2 rfl ?_
      refine z_bipush (v := 14) F dX8_backs_3 (by decide) ?_
      refine z_ic_ge (tgt := 26) F dX8_backs_5 (by decide) (fun h_5 => ?_) (fun h_5 => absurd h_5 (by decide))
      refine z_aload_n F dX8_backs_26 rfl ?_
      refine z_bipush (v := (-4)) F dX8_backs_27 (by decide) ?_
      refine zp_X8_more F (by with_reducible assumption) fl_X8_186 dX8_backs_29 ?_
      refine z_aload_n F dX8_backs_32 rfl ?_
      refine z_iconst (v := 0) F dX8_backs_33 (by decide) ?_
      refine zp_X8_tossed F (by with_reducible assumption) fl_X8_163 dX8_backs_34 ?_
      refine z_vret F X dX8_backs_37 ?_
      rfl
    | succ j ih =>
      intro k hkj
      have ih2 := ih (k + 1) (by omega)
      rw [← nI_1, ← cpF_up _ _ _ rfl] at ih2
      refine z_iload_n F dX8_backs_2 rfl ?_
      refine z_bipush (v := 14) F dX8_backs_3 (by decide) ?_
      refine z_ic_ge (tgt := 26) F dX8_backs_5 (by decide) (fun h_5 => absurd h_5 (nle (nI_lt (b := 14) (by omega) (by decide)))) (fun h_5 => ?_)
      refine z_aload_n F dX8_backs_8 rfl ?_
      refine zg_X8_now F (by with_reducible assumption) fl_X8_16 dX8_backs_9 (fun hk_9 => ?_)
      refine z_iload_n F dX8_backs_12 rfl ?_
      refine z_aload_n F dX8_backs_13 rfl ?_
      refine zg_X8_aside F (by with_reducible assumption) fl_X8_31 dX8_backs_14 (fun hk_14 => ?_)
      refine z_iload_n F dX8_backs_17 rfl ?_
      refine z_iald10n (q := k) F (by with_reducible assumption) (by first | with_reducible rfl | (simp only [n4, n2, n3, n5, n14, n16, na1, na2, na3, nI_add, nI_1, nI_pred]; done) | (simp only [n4, n2, n3, n5, n14, n16, na1, na2, na3, nI_add, nI_1, nI_pred, Nat.add_assoc, Nat.add_comm, Nat.add_left_comm]; done)) (by rw [hz8]; omega) dX8_backs_18 ?_
      try simp only [e3]
      refine z_iast10n (q := k) F (by with_reducible assumption) (by first | with_reducible rfl | (simp only [n4, n2, n3, n5, n14, n16, na1, na2, na3, nI_add, nI_1, nI_pred]; done) | (simp only [n4, n2, n3, n5, n14, n16, na1, na2, na3, nI_add, nI_1, nI_pred, Nat.add_assoc, Nat.add_comm, Nat.add_left_comm]; done)) (by rw [hz3]; omega) dX8_backs_19 ?_
      refine z_iincc (c := 1) (lv' := [_, _]) F dX8_backs_20 rfl (by decide) (by decide) rfl rfl ?_
      refine z_goto (tgt := 2) F dX8_backs_23 (by decide) ?_
      rw [zs_za, za_at, za_za]
      exact ih2
  have k0 := key 14 0 (by omega)
  rw [cpF_0, za_self] at k0
  refine z_iconst (v := 0) F dX8_backs_0 (by decide) ?_
  refine z_istore_n (lv' := [_, _]) F dX8_backs_1 (by decide) rfl rfl ?_
  exact k0
/-- the known milestones with one more -/
def shfF (U : zF1) (k : Nat) : zF1 := fun q => if q < k then U (q + 14) else U q
def rowU (U T : zF1) (u k : Nat) : zF1 := fun q => if 14 * u ≤ q ∧ q < 14 * u + k then T (q - 14 * u) else U q
def notU (U T : zF1) (u : Nat) : zF1 := if u = 8 then rowU (shfF U 98) T 7 14 else rowU U T u 14
def notN (u : Nat) : Nat := if u = 8 then 8 else u + 1
theorem shfF_up (U : zF1) (k : Nat) {v : Int32} (hv : v = U (k + 14)) : va_up (shfF U k) k v = shfF U (k + 1) := by
  funext q
  unfold va_up shfF
  by_cases e : q = k
  · subst e
    rw [if_pos rfl, if_pos (by omega), hv]
  · rw [if_neg e]
    by_cases e2 : q < k
    · exact (if_pos e2).trans (if_pos (show q < k + 1 by omega)).symm
    · exact (if_neg e2).trans (if_neg (show ¬ q < k + 1 by omega)).symm
theorem rowU_up (U T : zF1) (u k : Nat) {v : Int32} (hv : v = T k) : va_up (rowU U T u k) (14 * u + k) v = rowU U T u (k + 1) := by
  funext q
  unfold va_up rowU
  by_cases e : q = 14 * u + k
  · subst e
    rw [if_pos rfl, if_pos (by omega), hv, show 14 * u + k - 14 * u = k by omega]
  · rw [if_neg e]
    by_cases e2 : 14 * u ≤ q ∧ q < 14 * u + k
    · exact (if_pos e2).trans (if_pos (show 14 * u ≤ q ∧ q < 14 * u + (k + 1) by omega)).symm
    · exact (if_neg e2).trans (if_neg (show ¬ (14 * u ≤ q ∧ q < 14 * u + (k + 1)) by omega)).symm
theorem rowU_0 (U T : zF1) (u : Nat) : rowU U T u 0 = U := funext fun q => if_neg (by omega)
theorem c_X8_notes {l : Launch} {w : zE} (J : zJ w) {M : zM} {o u : Nat} (hk : zk o = 8) (ho : o = 138) (hu : M.1 o 20 = nI u) (h8 : u ≤ 8) : zCv l w yX8_notes cX8_notes 2 0 [.ref (w.2.2 o)] M (fun M2 => M2 = zs (za M (o + 7) (notU (M.1 (o + 7)) (M.1 (o + 3)) u)) o 20 (nI (notN u))) := by
  obtain ⟨hz1, hz2, hz3, hz4, hz5, hz6, hz7, hz8, hz9, hz10, hz11, hz12, hz13, hz14, hz15⟩ := zn8 ho
  refine zCv_of J zm_X8_notes [some (.ref (w.2.2 o)), none] (Nat.le_of_ble_eq_true rfl) rfl (fun g hg F X => ?_)
  subst hg
  have key2 : ∀ (M' : zM) (v : Nat), M'.1 o 20 = nI v → v < 8 → zs (za M' (o + 7) (rowU (M'.1 (o + 7)) (M'.1 (o + 3)) v 14)) o 20 (nI (v + 1)) = zs (za M (o + 7) (notU (M.1 (o + 7)) (M.1 (o + 3)) u)) o 20 (nI (notN u)) → ∀ (j k : Nat), k + j = 14 → ZW w g 2 47 [some (.ref (w.2.2 o)), some (.int (nI k))] [] (za M' (o + 7) (rowU (M'.1 (o + 7)) (M'.1 (o + 3)) v k)) := by
    intro M' v hv hv8 he j
    have e3 : ∀ f, (za M' (o + 7) f).1 (o + 3) = M'.1 (o + 3) := fun f => za_off _ (by omega)
    have e0 : ∀ f, (za M' (o + 7) f).1 o = M'.1 o := fun f => za_off _ (by omega)
    induction j with
    | zero =>
      intro k hkj
      have e : k = 14 := by omega
      subst e
      refine z_iload_n F dX8_notes_47 rfl ?_
      refine z_bipush (v := 14) F dX8_notes_48 (by decide) ?_
      refine z_ic_ge (tgt := 79) F dX8_notes_50 (by decide) (fun h_50 => ?_) (fun h_50 => absurd h_50 (by decide))
      refine z_aload_n F dX8_notes_79 rfl ?_
      refine z_dup F dX8_notes_80 rfl ?_
      refine zg_X8_undos F (by with_reducible assumption) fl_X8_66 dX8_notes_81 ?_
      try simp only [e0, hv]
      refine z_iconst (v := 1) F dX8_notes_84 (by decide) ?_
      refine z_iadd F dX8_notes_85 ?_
      refine zp_X8_undos F (by with_reducible assumption) fl_X8_66 dX8_notes_86 ?_
      refine z_vret F X dX8_notes_89 ?_
      rw [nI_1]
      exact he
    | succ j ih =>
      intro k hkj
      have ih2 := ih (k + 1) (by omega)
      rw [← nI_1, ← rowU_up _ _ _ _ rfl] at ih2
      refine z_iload_n F dX8_notes_47 rfl ?_
      refine z_bipush (v := 14) F dX8_notes_48 (by decide) ?_
      refine z_ic_ge (tgt := 79) F dX8_notes_50 (by decide) (fun h_50 => absurd h_50 (nle (nI_lt (b := 14) (by omega) (by decide)))) (fun h_50 => ?_)
      refine z_aload_n F dX8_notes_53 rfl ?_
      refine zg_X8_undone F (by with_reducible assumption) fl_X8_28 dX8_notes_54 (fun hk_54 => ?_)
      refine z_bipush (v := 14) F dX8_notes_57 (by decide) ?_
      refine z_aload_n F dX8_notes_59 rfl ?_
      refine zg_X8_undos F (by with_reducible assumption) fl_X8_66 dX8_notes_60 ?_
      try simp only [e3, e0, hv]
      refine z_imul F dX8_notes_63 ?_
      refine z_iload_n F dX8_notes_64 rfl ?_
      refine z_iadd F dX8_notes_65 ?_
      refine z_aload_n F dX8_notes_66 rfl ?_
      refine zg_X8_now F (by with_reducible assumption) fl_X8_16 dX8_notes_67 (fun hk_67 => ?_)
      refine z_iload_n F dX8_notes_70 rfl ?_
      refine z_iald10n (q := k) F (by with_reducible assumption) (by first | with_reducible rfl | (simp only [n4, n2, n3, n5, n14, n16, na1, na2, na3, nI_add, nI_1, nI_pred]; done) | (simp only [n4, n2, n3, n5, n14, n16, na1, na2, na3, nI_add, nI_1, nI_pred, Nat.add_assoc, Nat.add_comm, Nat.add_left_comm]; done)) (by rw [hz3]; omega) dX8_notes_71 ?_
      try simp only [e3, e0, hv]
      refine z_iast10n (q := ((14 * v) + k)) F (by with_reducible assumption) (by first | with_reducible rfl | (simp only [n4, n2, n3, n5, n14, n16, na1, na2, na3, nI_add, nI_1, nI_pred]; done) | (simp only [n4, n2, n3, n5, n14, n16, na1, na2, na3, nI_add, nI_1, nI_pred, Nat.add_assoc, Nat.add_comm, Nat.add_left_comm]; done)) (by rw [hz7]; omega) dX8_notes_72 ?_
      refine z_iincc (c := 1) (lv' := [_, _]) F dX8_notes_73 rfl (by decide) (by decide) rfl rfl ?_
      refine z_goto (tgt := 47) F dX8_notes_76 (by decide) ?_
      rw [zs_za, za_at, za_za]
      exact ih2
  have start2 : ∀ (M' : zM) (v : Nat), M'.1 o 20 = nI v → v < 8 → zs (za M' (o + 7) (rowU (M'.1 (o + 7)) (M'.1 (o + 3)) v 14)) o 20 (nI (v + 1)) = zs (za M (o + 7) (notU (M.1 (o + 7)) (M.1 (o + 3)) u)) o 20 (nI (notN u)) → ZW w g 2 47 [some (.ref (w.2.2 o)), some (.int (nI 0))] [] M' := by
    intro M' v a b c
    have k0 := key2 M' v a b c 14 0 (by omega)
    rw [rowU_0, za_self] at k0
    exact k0
  have key1 : u = 8 → ∀ (j k : Nat), k + j = 98 → ZW w g 2 12 [some (.ref (w.2.2 o)), some (.int (nI (k + 14)))] [] (za M (o + 7) (shfF (M.1 (o + 7)) k)) := by
    intro hu8 j
    induction j with
    | zero =>
      intro k hkj
      have e : k = 98 := by omega
      subst e
      refine z_iload_n F dX8_notes_12 rfl ?_
      refine z_bipush (v := 112) F dX8_notes_13 (by decide) ?_
      refine z_ic_ge (tgt := 39) F dX8_notes_15 (by decide) (fun h_15 => ?_) (fun h_15 => absurd h_15 (by decide))
      refine z_aload_n F dX8_notes_39 rfl ?_
      refine z_bipush (v := 7) F dX8_notes_40 (by decide) ?_
      refine zp_X8_undos F (by with_reducible assumption) fl_X8_66 dX8_notes_42 ?_
      refine z_iconst (v := 0) F dX8_notes_45 (by decide) ?_
      refine z_istore_n (lv' := [_, _]) F dX8_notes_46 (by decide) rfl rfl ?_
      refine start2 _ 7 (by rw [zs_at, va_up_self]; rfl) (by decide) ?_
      rw [zs_off _ (by omega), zs_off _ (by omega), za_at, za_off _ (by omega)]
      unfold notU notN
      rw [if_pos hu8, if_pos hu8]
      simp only [zs_za]
      rw [za_off _ (show o ≠ o + 7 by omega), za_off _ (show o ≠ o + 7 by omega), za_off _ (show o ≠ o + 7 by omega), za_at, bx_uu, za_swap _ _ _ (show o ≠ o + 7 by omega), za_za, za_za]
    | succ j ih =>
      intro k hkj
      have ih2 := ih (k + 1) (by omega)
      rw [show k + 1 + 14 = k + 14 + 1 by omega, ← nI_1, ← shfF_up _ _ rfl] at ih2
      have r1 : (shfF (M.1 (o + 7)) k) (k + 14) = M.1 (o + 7) (k + 14) := if_neg (by omega)
      have r2 : nI (k + 14) - 14 = nI k := by
        have := pk_sub (a := k + 14) (b := 14) (by omega)
        rw [show k + 14 - 14 = k by omega] at this
        exact this
      refine z_iload_n F dX8_notes_12 rfl ?_
      refine z_bipush (v := 112) F dX8_notes_13 (by decide) ?_
      refine z_ic_ge (tgt := 39) F dX8_notes_15 (by decide) (fun h_15 => absurd h_15 (nle (nI_lt (b := 112) (by omega) (by decide)))) (fun h_15 => ?_)
      refine z_aload_n F dX8_notes_18 rfl ?_
      refine zg_X8_undone F (by with_reducible assumption) fl_X8_28 dX8_notes_19 (fun hk_19 => ?_)
      refine z_iload_n F dX8_notes_22 rfl ?_
      refine z_bipush (v := 14) F dX8_notes_23 (by decide) ?_
      refine z_isub F dX8_notes_25 ?_
      rw [r2]
      refine z_aload_n F dX8_notes_26 rfl ?_
      refine zg_X8_undone F (by with_reducible assumption) fl_X8_28 dX8_notes_27 (fun hk_27 => ?_)
      refine z_iload_n F dX8_notes_30 rfl ?_
      refine z_iald10n (q := (k+14)) F (by with_reducible assumption) (by first | with_reducible rfl | (simp only [n4, n2, n3, n5, n14, n16, na1, na2, na3, nI_add, nI_1, nI_pred]; done) | (simp only [n4, n2, n3, n5, n14, n16, na1, na2, na3, nI_add, nI_1, nI_pred, Nat.add_assoc, Nat.add_comm, Nat.add_left_comm]; done)) (by rw [hz7]; omega) dX8_notes_31 ?_
      try simp only [za_at, r1]
      refine z_iast10n (q := k) F (by with_reducible assumption) (by first | with_reducible rfl | (simp only [n4, n2, n3, n5, n14, n16, na1, na2, na3, nI_add, nI_1, nI_pred]; done) | (simp only [n4, n2, n3, n5, n14, n16, na1, na2, na3, nI_add, nI_1, nI_pred, Nat.add_assoc, Nat.add_comm, Nat.add_left_comm]; done)) (by rw [hz7]; omega) dX8_notes_32 ?_
      refine z_iincc (c := 1) (lv' := [_, _]) F dX8_notes_33 rfl (by decide) (by decide) rfl rfl ?_
      refine z_goto (tgt := 12) F dX8_notes_36 (by decide) ?_
      rw [zs_za, za_at, za_za]
      exact ih2
  refine z_aload_n F dX8_notes_0 rfl ?_
  refine zg_X8_undos F (by with_reducible assumption) fl_X8_66 dX8_notes_1 ?_
  try simp only [hu]
  refine z_bipush (v := 8) F dX8_notes_4 (by decide) ?_
  refine z_ic_ne (tgt := 45) F dX8_notes_6 (by decide) (fun h_6 => ?_) (fun h_6 => ?_)
  · try simp only [hu] at h_6
    refine z_iconst (v := 0) F dX8_notes_45 (by decide) ?_
    refine z_istore_n (lv' := [_, _]) F dX8_notes_46 (by decide) rfl rfl ?_
    have hu8 : u ≠ 8 := fun e => h_6 (by rw [e]; rfl)
    refine start2 M u hu (by omega) ?_
    unfold notU notN
    rw [if_neg hu8, if_neg hu8]
  · try simp only [hu] at h_6
    refine z_bipush (v := 14) F dX8_notes_9 (by decide) ?_
    refine z_istore_n (lv' := [_, _]) F dX8_notes_11 (by decide) rfl rfl ?_
    have hu8 : u = 8 := (nI_eq (b := 8) (by omega) (by decide)).mp h_6
    have k0 := key1 hu8 98 0 (by omega)
    have e : shfF (M.1 (o + 7)) 0 = M.1 (o + 7) := funext fun q => if_neg (by omega)
    rw [e, za_self] at k0
    exact k0
theorem c_X8_undo {l : Launch} {w : zE} (J : zJ w) {M : zM} {o u : Nat} (hk : zk o = 8) (ho : o = 138) (hu : M.1 o 20 = nI u) (h8 : u ≤ 8) : zCi l w yX8_undo cX8_undo 2 (some .int) 0 [.ref (w.2.2 o)] M (fun r M2 => (u = 0 ∧ r = -4 ∧ M2 = M) ∨ (∃ j, u = j + 1 ∧ r = nI j ∧ M2 = za (zs M o 20 (nI j)) (o + 3) (fun q => M.1 (o + 7) (14 * j + q)))) := by
  obtain ⟨hz1, hz2, hz3, hz4, hz5, hz6, hz7, hz8, hz9, hz10, hz11, hz12, hz13, hz14, hz15⟩ := zn8 ho
  have k8 := zkf8 o (zk_i hk (by decide)) hk
  refine zCi_of J zm_X8_undo [some (.ref (w.2.2 o)), none] (Nat.le_of_ble_eq_true rfl) rfl (fun g hg F X => ?_)
  subst hg
  match u, hu, h8 with
  | 0, hu, h8 =>
    refine z_aload_n F dX8_undo_0 rfl ?_
    refine zg_X8_undos F (by with_reducible assumption) fl_X8_66 dX8_undo_1 ?_
    try simp only [hu]
    refine z_if_ne (tgt := 10) F dX8_undo_4 (by decide) (fun h_4 => absurd h_4 (not_not_intro rfl)) (fun h_4 => ?_)
    refine z_bipush (v := (-4)) F dX8_undo_7 (by decide) ?_
    refine z_iret F X dX8_undo_9 ?_
    exact Or.inl ⟨rfl, rfl, rfl⟩
  | v + 1, hu, h8 =>
    have e20 : (zs M o 20 (nI v)).1 o 20 = nI v := by rw [zs_at, va_up_self]
    have e3 : (zs M o 20 (nI v)).1 (o + 3) = M.1 (o + 3) := zs_off _ (by omega)
    have e7 : (zs M o 20 (nI v)).1 (o + 7) = M.1 (o + 7) := zs_off _ (by omega)
    generalize hM : zs M o 20 (nI v) = M' at X e20 e3 e7
    have f0 : ∀ f, (za M' (o + 3) f).1 o = M'.1 o := fun f => za_off _ (by omega)
    have f7 : ∀ f, (za M' (o + 3) f).1 (o + 7) = M'.1 (o + 7) := fun f => za_off _ (by omega)
    have key : ∀ (j k : Nat), k + j = 14 → ZW w g 2 22 [some (.ref (w.2.2 o)), some (.int (nI k))] [] (za M' (o + 3) (cpF k (M.1 (o + 3)) (fun q => M.1 (o + 7) (14 * v + q)))) := by
      intro j
      induction j with
      | zero =>
        intro k hkj
        have e : k = 14 := by omega
        subst e
        refine z_10 (i := o + 3) (f := fun q => M.1 (o + 7) (14 * v + q)) k8.2.2.1 (fun j hj => ?_) ?_
        · rw [hz3] at hj
          rw [za_at]
          exact (if_pos hj).symm
        rw [za_za]
        refine z_iload_n F dX8_undo_22 rfl ?_
        refine z_bipush (v := 14) F dX8_undo_23 (by decide) ?_
        refine z_ic_ge (tgt := 54) F dX8_undo_25 (by decide) (fun h_25 => ?_) (fun h_25 => absurd h_25 (by decide))
        refine z_aload_n F dX8_undo_54 rfl ?_
        refine zg_X8_undos F (by with_reducible assumption) fl_X8_66 dX8_undo_55 ?_
        try simp only [f0, e20]
        refine z_iret F X dX8_undo_58 ?_
        exact Or.inr ⟨v, rfl, rfl, by rw [hM]⟩
      | succ j ih =>
        intro k hkj
        have ih2 := ih (k + 1) (by omega)
        rw [← nI_1, ← cpF_up _ _ _ rfl] at ih2
        refine z_iload_n F dX8_undo_22 rfl ?_
        refine z_bipush (v := 14) F dX8_undo_23 (by decide) ?_
        refine z_ic_ge (tgt := 54) F dX8_undo_25 (by decide) (fun h_25 => absurd h_25 (nle (nI_lt (b := 14) (by omega) (by decide)))) (fun h_25 => ?_)
        refine z_aload_n F dX8_undo_28 rfl ?_
        refine zg_X8_now F (by with_reducible assumption) fl_X8_16 dX8_undo_29 (fun hk_29 => ?_)
        refine z_iload_n F dX8_undo_32 rfl ?_
        refine z_aload_n F dX8_undo_33 rfl ?_
        refine zg_X8_undone F (by with_reducible assumption) fl_X8_28 dX8_undo_34 (fun hk_34 => ?_)
        refine z_bipush (v := 14) F dX8_undo_37 (by decide) ?_
        refine z_aload_n F dX8_undo_39 rfl ?_
        refine zg_X8_undos F (by with_reducible assumption) fl_X8_66 dX8_undo_40 ?_
        try simp only [f0, f7, e20, e7]
        refine z_imul F dX8_undo_43 ?_
        refine z_iload_n F dX8_undo_44 rfl ?_
        refine z_iadd F dX8_undo_45 ?_
        refine z_iald10n (q := ((14 * v) + k)) F (by with_reducible assumption) (by first | with_reducible rfl | (simp only [n4, n2, n3, n5, n14, n16, na1, na2, na3, nI_add, nI_1, nI_pred]; done) | (simp only [n4, n2, n3, n5, n14, n16, na1, na2, na3, nI_add, nI_1, nI_pred, Nat.add_assoc, Nat.add_comm, Nat.add_left_comm]; done)) (by rw [hz7]; omega) dX8_undo_46 ?_
        try simp only [f0, f7, e20, e7]
        refine z_iast10n (q := k) F (by with_reducible assumption) (by first | with_reducible rfl | (simp only [n4, n2, n3, n5, n14, n16, na1, na2, na3, nI_add, nI_1, nI_pred]; done) | (simp only [n4, n2, n3, n5, n14, n16, na1, na2, na3, nI_add, nI_1, nI_pred, Nat.add_assoc, Nat.add_comm, Nat.add_left_comm]; done)) (by rw [hz3]; omega) dX8_undo_47 ?_
        refine z_iincc (c := 1) (lv' := [_, _]) F dX8_undo_48 rfl (by decide) (by decide) rfl rfl ?_
        refine z_goto (tgt := 22) F dX8_undo_51 (by decide) ?_
        rw [zs_za, za_at, za_za]
        exact ih2
    have k0 := key 14 0 (by omega)
    rw [cpF_0, ← e3, za_self] at k0
    refine z_aload_n F dX8_undo_0 rfl ?_
    refine zg_X8_undos F (by with_reducible assumption) fl_X8_66 dX8_undo_1 ?_
    try simp only [hu]
    refine z_if_ne (tgt := 10) F dX8_undo_4 (by decide) (fun h_4 => ?_) (fun h_4 => absurd h_4 (nI_ne0 (by omega) (by omega)))
    refine z_aload_n F dX8_undo_10 rfl ?_
    refine z_dup F dX8_undo_11 rfl ?_
    refine zg_X8_undos F (by with_reducible assumption) fl_X8_66 dX8_undo_12 ?_
    try simp only [hu]
    refine z_iconst (v := 1) F dX8_undo_15 (by decide) ?_
    refine z_isub F dX8_undo_16 ?_
    rw [nI_pred]
    refine zp_X8_undos F (by with_reducible assumption) fl_X8_66 dX8_undo_17 ?_
    rw [hM]
    refine z_iconst (v := 0) F dX8_undo_20 (by decide) ?_
    refine z_istore_n (lv' := [_, _]) F dX8_undo_21 (by decide) rfl rfl ?_
    exact k0
end
section
/-- the reference's frames: behind a foretelling; within one -/
def zgf (o : Nat) (M M' : zM) : Prop := M'.2 = M.2 ∧ (∀ b, b ≠ o → b ≠ o + 8 → b ≠ o + 9 → b ≠ o + 10 → M'.1 b = M.1 b) ∧ (∀ k, k ≠ 7 → k ≠ 8 → k ≠ 18 → M'.1 o k = M.1 o k) ∧ M'.1 o 8 = 0
def zgx (o : Nat) (M M' : zM) : Prop := M'.2 = M.2 ∧ (∀ b, b ≠ o → b ≠ o + 3 → b ≠ o + 8 → b ≠ o + 9 → b ≠ o + 10 → M'.1 b = M.1 b) ∧ (∀ k, k ≠ 7 → k ≠ 8 → k ≠ 18 → M'.1 o k = M.1 o k)
theorem zgf.rf {o : Nat} {M : zM} (h : M.1 o 8 = 0) : zgf o M M := ⟨rfl, fun _ _ _ _ _ => rfl, fun _ _ _ _ => rfl, h⟩
theorem zgf.x {o : Nat} {M M' : zM} (h : zgf o M M') : zgx o M M' := ⟨h.1, fun b h1 _ h2 h3 h4 => h.2.1 b h1 h2 h3 h4, h.2.2.1⟩
theorem zgx.rf {o : Nat} {M : zM} : zgx o M M := ⟨rfl, fun _ _ _ _ _ _ => rfl, fun _ _ _ _ => rfl⟩
theorem zgf.tr {o : Nat} {M M1 M2 : zM} (h : zgf o M M1) (k : zgf o M1 M2) : zgf o M M2 := ⟨k.1.trans h.1, fun b a1 a2 a3 a4 => (k.2.1 b a1 a2 a3 a4).trans (h.2.1 b a1 a2 a3 a4), fun q a1 a2 a3 => (k.2.2.1 q a1 a2 a3).trans (h.2.2.1 q a1 a2 a3), k.2.2.2⟩
theorem zgx.a {o b : Nat} {M M' : zM} {f : zF1} (h : zgx o M M') (hb : b = o + 3 ∨ b = o + 8 ∨ b = o + 9 ∨ b = o + 10) : zgx o M (za M' b f) := ⟨h.1, fun c a1 a2 a3 a4 a5 => (za_off _ (by omega)).trans (h.2.1 c a1 a2 a3 a4 a5), fun k a1 a2 a3 => (congrFun (za_off M' (c := o) (by omega)) k).trans (h.2.2 k a1 a2 a3)⟩
theorem zgx.s {o q : Nat} {M M' : zM} {v : Int32} (h : zgx o M M') (hq : q = 7 ∨ q = 8 ∨ q = 18) : zgx o M (zs M' o q v) := ⟨h.1, fun c a1 a2 a3 a4 a5 => (zs_off _ a1).trans (h.2.1 c a1 a2 a3 a4 a5), fun k a1 a2 a3 => by
  rw [zs_at, va_up_ne _ _ (by omega)]
  exact h.2.2 k a1 a2 a3⟩
theorem zgx.r {o : Nat} {M M' : zM} {T : zF1} {rf : Int32} (h : zgx o M M') : zgx o M (zr M' o T rf) := by
  refine ⟨h.1, fun c a1 a2 a3 a4 a5 => (zr_off a1 a2).trans (h.2.1 c a1 a2 a3 a4 a5), fun k a1 a2 a3 => ?_⟩
  rw [zr_of _ _ _ _ a3]
  exact h.2.2 k a1 a2 a3
theorem zgf.back {o : Nat} {M M' : zM} (h : zgx o M M') (hT : M'.1 (o + 8) = M.1 (o + 3)) : zgf o M (zs (zs (za M' (o + 3) (M'.1 (o + 8))) o 7 (-4)) o 8 0) := by
  have h2 := ((h.a (f := M'.1 (o + 8)) (Or.inl rfl)).s (v := -4) (Or.inl rfl)).s (v := 0) (Or.inr (Or.inl rfl))
  refine ⟨h2.1, fun b a1 a3 a4 a5 => ?_, h2.2.2, by rw [zs_at, va_up_self]⟩
  by_cases e : b = o + 3
  · rw [e, zs_off _ (by omega), zs_off _ (by omega), za_at, hT]
  · exact h2.2.1 b a1 e a3 a4 a5
/-- what holds of the reference between calls, as far as foretellings need it -/
def rOK (M : zM) (o nt np a : Nat) : Prop := M.1 o 0 = nI nt ∧ nt ≤ 10 ∧ M.1 o 1 = nI np ∧ np ≤ 8 ∧ kdOK (M.1 (o + 1)) ∧ tv9 nt (M.1 (o + 3)) ∧ M.1 (o + 3) 3 = nI a ∧ a ≤ 12 ∧ M.1 o 8 = 0
theorem rOK.fr {M M' : zM} {o nt np a : Nat} (h : rOK M o nt np a) (f : zgf o M M') : rOK M' o nt np a := by
  unfold rOK at *
  rw [f.2.2.1 0 (by decide) (by decide) (by decide), f.2.2.1 1 (by decide) (by decide) (by decide), f.2.1 (o + 1) (by omega) (by omega) (by omega) (by omega), f.2.1 (o + 3) (by omega) (by omega) (by omega) (by omega), f.2.2.2]
  exact ⟨h.1, h.2.1, h.2.2.1, h.2.2.2.1, h.2.2.2.2.1, h.2.2.2.2.2.1, h.2.2.2.2.2.2.1, h.2.2.2.2.2.2.2.1, rfl⟩
theorem rbM_x {M M' : zM} {o : Nat} (h : zgx o M M') : rbM (M'.1 o) = rbM (M.1 o) := funext fun k => by
  unfold rbM
  rw [h.2.2 0 (by decide) (by decide) (by decide), h.2.2 1 (by decide) (by decide) (by decide), h.2.2 5 (by decide) (by decide) (by decide), h.2.2 6 (by decide) (by decide) (by decide)]
theorem coin_0 (x : Int32) : coinF 0 x = 1 := by
  unfold coinF
  rw [Int32.zero_shiftRight, Int32.zero_and]
  rfl
theorem moreF_no (rb th : zF1) (c : Int32) {s : zF1 × Int32} {a : Nat} (h : s.1 3 = nI a) (ha : a ≤ 12) : moreF rb th (-4) c s = s := by
  unfold moreF
  refine if_neg (fun q => ?_)
  have q1 := q.1
  rw [h] at q1
  exact (by decide : ∀ a, a < 13 → ¬ ((-4 : Int32) = nI a)) a (by omega) q1
theorem peo_3 (rb th pe : zF1) (c : Int32) : ∀ (k : Nat) (s : zF1 × Int32), (peoF rb th pe c k s).1 3 = s.1 3 := by
  intro k
  induction k with
  | zero => intro s; rfl
  | succ k ih =>
    intro s
    show (stepF rb th pe c k (peoF rb th pe c k s)).1 3 = s.1 3
    rw [← ih s]
    unfold stepF
    split
    · exact offT_3 _ _ _ _ _ _
    · rfl
theorem passM_F (rb th pe : zF1) (np : Nat) (c : Int32) {s : zF1 × Int32} {a : Nat} (h : s.1 3 = nI a) (ha : a ≤ 12) : passM rb th pe np (-4) c s = passF rb th pe np c s := by
  unfold passM
  rw [moreF_no _ _ _ (a := a) (by rw [peo_3]; exact (feels_3 _ _ _ _).trans h) ha]
  rfl
theorem wellF_3 (rb th : zF1) (T : zF1) : wellF rb th T 3 = T 3 := by
  unfold wellF
  split
  · rw [va_up_ne _ _ (by decide), va_up_ne _ _ (by decide)]
  · rfl
theorem passF_3 (rb th pe : zF1) (np : Nat) (c : Int32) (s : zF1 × Int32) : (passF rb th pe np c s).1 3 = s.1 3 + 1 := by
  show va_up (wellF rb th (peoF rb th pe c np (feelsF rb th c s.1, s.2)).1) 3 (wellF rb th (peoF rb th pe c np (feelsF rb th c s.1, s.2)).1 3 + 1) 3 = s.1 3 + 1
  rw [va_up_self, wellF_3, peo_3]
  exact congrArg (· + 1) (feels_3 _ _ _ _)
theorem homeM_F (rb th pe : zF1) (np : Nat) : ∀ (k : Nat) {s : zF1 × Int32} {a : Nat}, s.1 3 = nI a → a + k ≤ 12 → homeM rb th pe np (-4) 0 k s = homeF rb th pe np k s := by
  intro k
  induction k with
  | zero => intro s a h ha; rfl
  | succ k ih =>
    intro s a h ha
    show homeM rb th pe np (-4) 0 k (passM rb th pe np (-4) (coinF 0 (s.1 3)) s) = homeF rb th pe np k (passF rb th pe np 1 s)
    rw [coin_0, passM_F _ _ _ _ _ h (by omega)]
    exact ih (a := a + 1) (by rw [passF_3, h, nI_1]) (by omega)
/-- his way home, of the reference -/
def hmR (M : zM) (o np a : Nat) : zF1 × Int32 := homeF (rbM (M.1 o)) (M.1 (o + 1)) (M.1 (o + 2)) np (12 - a) (M.1 (o + 3), -4)
theorem hm_tv {nt : Nat} (rb th pe : zF1) {np : Nat} (hp : np ≤ 9) {s : zF1 × Int32} {k a : Nat} (h : s.1 3 = nI a) (ha : a + k ≤ 12) (tv : tv9 nt s.1) : tv9 nt (homeF rb th pe np k s).1 := by
  rw [← homeM_F rb th pe np k h ha]
  exact home_ok rb th pe (-4) 0 hp k tv
end
section
theorem c_X8_go {l : Launch} {w : zE} (J : zJ w) {M : zM} {o nt np a u : Nat} (hk : zk o = 8) (ho : o = 138) (ok : rOK M o nt np a) (hu : M.1 o 20 = nI u) (hu8 : u ≤ 8) : zCi l w yX8_go cX8_go 2 (some .int) 6 [.ref (w.2.2 o)] M (fun r M2 => (a = 12 ∧ r = -2 ∧ M2 = M) ∨ (a < 12 ∧ ∃ rf, r = (passF (rbM (M.1 o)) (M.1 (o + 1)) (M.1 (o + 2)) np 1 (M.1 (o + 3), M.1 o 18)).1 4 - M.1 (o + 3) 4 ∧ M2 = zr (zs (zs (za M (o + 7) (notU (M.1 (o + 7)) (M.1 (o + 3)) u)) o 20 (nI (notN u))) o 7 (-4)) o (passF (rbM (M.1 o)) (M.1 (o + 1)) (M.1 (o + 2)) np 1 (M.1 (o + 3), M.1 o 18)).1 rf)) := by
  obtain ⟨hz1, hz2, hz3, hz4, hz5, hz6, hz7, hz8, hz9, hz10, hz11, hz12, hz13, hz14, hz15⟩ := zn8 ho
  obtain ⟨hnt, h10, hnp, h8, kd, tv, ha, h12, hts⟩ := id ok
  refine zCi_of J zm_X8_go [some (.ref (w.2.2 o)), none] (Nat.le_of_ble_eq_true rfl) rfl (fun g hg F X => ?_)
  subst hg
  have ez : ∀ b, b ≠ o → b ≠ o + 7 → ∀ f, (zs (za M (o + 7) f) o 20 (nI (notN u))).1 b = M.1 b := fun b h1 h2 f => by rw [zs_off _ h1, za_off _ h2]
  have eo : ∀ f, (zs (za M (o + 7) f) o 20 (nI (notN u))).1 o = va_up (M.1 o) 20 (nI (notN u)) := fun f => by rw [zs_at, za_off _ (by omega)]
  generalize hU : notU (M.1 (o + 7)) (M.1 (o + 3)) u = U at X
  have e3' : (zs (za M (o + 7) U) o 20 (nI (notN u))).1 (o + 3) = M.1 (o + 3) := ez _ (by omega) (by omega) _
  have e1 : (zs (zs (za M (o + 7) U) o 20 (nI (notN u))) o 7 (-4)).1 (o + 1) = M.1 (o + 1) := by rw [zs_off _ (by omega), ez _ (by omega) (by omega)]
  have e2 : (zs (zs (za M (o + 7) U) o 20 (nI (notN u))) o 7 (-4)).1 (o + 2) = M.1 (o + 2) := by rw [zs_off _ (by omega), ez _ (by omega) (by omega)]
  have e3 : (zs (zs (za M (o + 7) U) o 20 (nI (notN u))) o 7 (-4)).1 (o + 3) = M.1 (o + 3) := by rw [zs_off _ (by omega), ez _ (by omega) (by omega)]
  have e0 : ∀ k, k ≠ 7 → k ≠ 20 → (zs (zs (za M (o + 7) U) o 20 (nI (notN u))) o 7 (-4)).1 o k = M.1 o k := fun k h1 h2 => by rw [zs_at, va_up_ne _ _ h1, eo, va_up_ne _ _ h2]
  have e07 : (zs (zs (za M (o + 7) U) o 20 (nI (notN u))) o 7 (-4)).1 o 7 = -4 := by rw [zs_at, va_up_self]
  have er : rbM ((zs (zs (za M (o + 7) U) o 20 (nI (notN u))) o 7 (-4)).1 o) = rbM (M.1 o) := funext fun k => by
    unfold rbM
    rw [e0 0 (by decide) (by decide), e0 1 (by decide) (by decide), e0 5 (by decide) (by decide), e0 6 (by decide) (by decide)]
  have epass : passM (rbM (M.1 o)) (M.1 (o + 1)) (M.1 (o + 2)) np (-4) (coinF 0 (M.1 (o + 3) 3)) (M.1 (o + 3), M.1 o 18) = passF (rbM (M.1 o)) (M.1 (o + 1)) (M.1 (o + 2)) np 1 (M.1 (o + 3), M.1 o 18) := by
    rw [coin_0, passM_F _ _ _ _ _ ha h12]
  refine z_aload_n F dX8_go_0 rfl ?_
  refine zg_X8_now F (by with_reducible assumption) fl_X8_16 dX8_go_1 (fun hk_1 => ?_)
  refine z_iconst (v := 3) F dX8_go_4 (by decide) ?_
  refine z_iald10n (q := 3) F (by with_reducible assumption) (by decide) (by rw [hz3]; omega) dX8_go_5 ?_
  try simp only [ha, e3']
  refine z_bipush (v := 12) F dX8_go_6 (by decide) ?_
  refine z_ic_ne (tgt := 14) F dX8_go_8 (by decide) (fun h_8 => ?_) (fun h_8 => ?_)
  · try simp only [ha, e3'] at h_8
    refine z_aload_n F dX8_go_14 rfl ?_
    refine z_callVv F (c_X8_notes J hk ho hu hu8) zm_X8_notes zv_X8_notes ml_X8_189 (by with_reducible assumption) (by decide) rfl rfl rfl (Nat.le_of_ble_eq_true rfl) dX8_go_15 (by omega) (fun M_15 h_15 => ?_)
    replace h_15 := Eq.symm h_15
    subst h_15
    rw [hU]
    refine z_aload_n F dX8_go_18 rfl ?_
    refine zg_X8_now F (by with_reducible assumption) fl_X8_16 dX8_go_19 (fun hk_19 => ?_)
    refine z_iconst (v := 4) F dX8_go_22 (by decide) ?_
    refine z_iald10n (q := 4) F (by with_reducible assumption) (by decide) (by rw [hz3]; omega) dX8_go_23 ?_
    try simp only [ha, e3']
    refine z_istore_n (lv' := [_, _]) F dX8_go_24 (by decide) rfl rfl ?_
    refine z_aload_n F dX8_go_25 rfl ?_
    refine z_bipush (v := (-4)) F dX8_go_26 (by decide) ?_
    refine zp_X8_more F (by with_reducible assumption) fl_X8_186 dX8_go_28 ?_
    refine z_aload_n F dX8_go_31 rfl ?_
    refine z_callVv F (c_X8_goesOn J hk ho (by rw [e0 0 (by decide) (by decide)]; exact hnt) h10 (by rw [e0 1 (by decide) (by decide)]; exact hnp) h8 (by rw [e1]; exact kd) (by rw [e3]; exact tv)) zm_X8_goesOn zv_X8_goesOn ml_X8_192 (by with_reducible assumption) (by decide) rfl rfl rfl (Nat.le_of_ble_eq_true rfl) dX8_go_32 (by omega) (fun M_32 h_32 => ?_)
    replace h_32 := Eq.symm h_32
    subst h_32
    rw [e1, e2, e3, e07, e0 8 (by decide) (by decide), e0 18 (by decide) (by decide), er, hts, epass]
    refine z_aload_n F dX8_go_35 rfl ?_
    refine zg_X8_now F (by with_reducible assumption) fl_X8_16 dX8_go_36 (fun hk_36 => ?_)
    refine z_iconst (v := 4) F dX8_go_39 (by decide) ?_
    refine z_iald10n (q := 4) F (by with_reducible assumption) (by decide) (by rw [hz3]; omega) dX8_go_40 ?_
    rw [zr_T]
    refine z_iload_n F dX8_go_41 rfl ?_
    refine z_isub F dX8_go_42 ?_
    refine z_iret F X dX8_go_43 ?_
    refine Or.inr ⟨?_, _, rfl, rfl⟩
    have : a ≠ 12 := fun e => h_8 (by rw [e]; rfl)
    omega
  · try simp only [ha, e3'] at h_8
    refine z_bipush (v := (-2)) F dX8_go_11 (by decide) ?_
    refine z_iret F X dX8_go_13 ?_
    refine Or.inl ⟨(nI_eq (b := 12) (by omega) (by decide)).mp h_8, rfl, rfl⟩
theorem c_X8_glad {l : Launch} {w : zE} (J : zJ w) {M : zM} {o nt np a : Nat} {x : Int32} (hk : zk o = 8) (ho : o = 138) (ok : rOK M o nt np a) : zCi l w yX8_glad cX8_glad 2 (some .int) 4 [.ref (w.2.2 o), .int x] M (fun r M2 => M2 = M ∧ r = gldS (rbM (M.1 o)) (M.1 (o + 1)) (M.1 (o + 3)) x) := by
  obtain ⟨hz1, hz2, hz3, hz4, hz5, hz6, hz7, hz8, hz9, hz10, hz11, hz12, hz13, hz14, hz15⟩ := zn8 ho
  obtain ⟨hnt, h10, hnp, h8, kd, tv, ha, h12, hts⟩ := id ok
  have e0 : rbM (M.1 o) 0 = M.1 o 0 := rfl
  have ec : coinF (M.1 o 8) (M.1 (o + 3) 3) = 1 := by rw [hts, coin_0]
  have e5 : rbM (M.1 o) 2 = M.1 o 5 := rfl
  refine zCi_of J zm_X8_glad [some (.ref (w.2.2 o)), some (.int x)] (Nat.le_of_ble_eq_true rfl) rfl (fun g hg F X => ?_)
  subst hg
  unfold gldS at X
  rw [e0, e5] at X
  refine z_aload_n F dX8_glad_0 rfl ?_
  refine z_iload_n F dX8_glad_1 rfl ?_
  refine z_i2l F dX8_glad_2 ?_
  refine z_callVi F (d_X8_isThing J hk hnt h10) zm_X8_isThing zv_X8_isThing ml_X8_89 (by with_reducible assumption) (by decide) rfl rfl rfl (Nat.le_of_ble_eq_true rfl) dX8_glad_3 (by omega) (fun r_3 M_3 h_3 => ?_)
  obtain ⟨e_3, rfl⟩ := h_3
  replace e_3 := Eq.symm e_3
  subst e_3
  refine z_if_ne (tgt := 11) F dX8_glad_6 (by decide) (fun h_6 => ?_) (fun h_6 => ?_)
  · replace h_6 := bI_1.mp h_6
    refine z_aload_n F dX8_glad_11 rfl ?_
    refine zg_X8_now F (by with_reducible assumption) fl_X8_16 dX8_glad_12 (fun hk_12 => ?_)
    refine z_iconst (v := 0) F dX8_glad_15 (by decide) ?_
    refine z_iald10n (q := 0) F (by with_reducible assumption) (by decide) (by rw [hz3]; omega) dX8_glad_16 ?_
    refine z_bipush (v := (-4)) F dX8_glad_17 (by decide) ?_
    refine z_ic_eq (tgt := 32) F dX8_glad_19 (by decide) (fun h_19 => ?_) (fun h_19 => ?_)
    · refine z_bipush (v := (-2)) F dX8_glad_32 (by decide) ?_
      refine z_iret F X dX8_glad_34 ?_
      refine ⟨rfl, ?_⟩
      rw [if_pos h_6]
      first | exact (if_pos (Or.inl h_19)).symm | exact (if_pos (Or.inr h_29)).symm
    · refine z_aload_n F dX8_glad_22 rfl ?_
      refine zg_X8_now F (by with_reducible assumption) fl_X8_16 dX8_glad_23 (fun hk_23 => ?_)
      refine z_iconst (v := 0) F dX8_glad_26 (by decide) ?_
      refine z_iald10n (q := 0) F (by with_reducible assumption) (by decide) (by rw [hz3]; omega) dX8_glad_27 ?_
      refine z_iload_n F dX8_glad_28 rfl ?_
      refine z_ic_ne (tgt := 35) F dX8_glad_29 (by decide) (fun h_29 => ?_) (fun h_29 => ?_)
      · obtain ⟨j, hj, rfl⟩ := n_in (n := nt) (by rw [← hnt]; exact h_6) (by omega)
        obtain ⟨h, hh, a0⟩ : ∃ h, h < nt ∧ M.1 (o + 3) 0 = nI h := tv.1.resolve_left h_19
        refine z_aload_n F dX8_glad_35 rfl ?_
        refine z_iload_n F dX8_glad_36 rfl ?_
        refine z_callVi F (c_X8_isGlad J hk ho a0 (by omega) (by omega) kd tv.2.2) zm_X8_isGlad zv_X8_isGlad ml_X8_176 (by with_reducible assumption) (by decide) rfl rfl rfl (Nat.le_of_ble_eq_true rfl) dX8_glad_37 (by omega) (fun r_37 M_37 h_37 => ?_)
        obtain ⟨e_37, rfl⟩ := h_37
        replace e_37 := Eq.symm e_37
        subst e_37
        rw [ec]
        refine z_if_eq (tgt := 47) F dX8_glad_40 (by decide) (fun h_40 => ?_) (fun h_40 => ?_)
        · replace h_40 := bI_0.mp h_40
          refine z_iconst (v := 0) F dX8_glad_47 (by decide) ?_
          refine z_iret F X dX8_glad_48 ?_
          refine ⟨rfl, ?_⟩
          rw [if_pos h_6, if_neg (fun q => q.elim h_19 h_29)]
          exact bI_f h_40
        · replace h_40 := bI_1.mp h_40
          refine z_iconst (v := 1) F dX8_glad_43 (by decide) ?_
          refine z_goto (tgt := 48) F dX8_glad_44 (by decide) ?_
          refine z_iret F X dX8_glad_48 ?_
          refine ⟨rfl, ?_⟩
          rw [if_pos h_6, if_neg (fun q => q.elim h_19 h_29)]
          exact bI_t h_40
      · refine z_bipush (v := (-2)) F dX8_glad_32 (by decide) ?_
        refine z_iret F X dX8_glad_34 ?_
        refine ⟨rfl, ?_⟩
        rw [if_pos h_6]
        first | exact (if_pos (Or.inl h_19)).symm | exact (if_pos (Or.inr h_29)).symm
  · replace h_6 := bI_0.mp h_6
    refine z_iconst (v := (-1)) F dX8_glad_9 (by decide) ?_
    refine z_iret F X dX8_glad_10 ?_
    exact ⟨rfl, (if_neg h_6).symm⟩
def homR (M : zM) (o np a : Nat) (k : Int32) : Int32 := if k < 0 ∨ 2 < k then -1 else if k = 0 then (hmR M o np a).1 0 else if k = 1 then (hmR M o np a).1 4 - M.1 (o + 3) 4 else (hmR M o np a).2
/-- aside, and home -/
def asd (M : zM) (o : Nat) : zM := zs (za M (o + 8) (M.1 (o + 3))) o 7 (-4)
theorem asd_b (M : zM) {o b : Nat} (h : b ≠ o) (h8 : b ≠ o + 8) : (asd M o).1 b = M.1 b := by unfold asd; rw [zs_off _ h, za_off _ h8]
theorem asd_8 (M : zM) (o : Nat) : (asd M o).1 (o + 8) = M.1 (o + 3) := by unfold asd; rw [zs_off _ (by omega), za_at]
theorem asd_o (M : zM) {o k : Nat} (h : k ≠ 7) : (asd M o).1 o k = M.1 o k := by unfold asd; rw [zs_at, va_up_ne _ _ h, za_off _ (by omega)]
theorem asd_7 (M : zM) (o : Nat) : (asd M o).1 o 7 = -4 := by unfold asd; rw [zs_at, va_up_self]
theorem asd_x (M : zM) (o : Nat) : zgx o M (asd M o) := (zgx.rf.a (Or.inr (Or.inl rfl))).s (Or.inl rfl)
theorem d_goesHome {l : Launch} {w : zE} (J : zJ w) {M : zM} {o nt np a : Nat} (hk : zk o = 8) (ho : o = 138) (ok : rOK M o nt np a) : zCv l w yX8_goesHome cX8_goesHome 1 6 [.ref (w.2.2 o)] (asd M o) (fun M2 => M2 = zr (asd M o) o (hmR M o np a).1 (hmR M o np a).2) := by
  obtain ⟨hnt, h10, hnp, h8, kd, tv, ha, h12, hts⟩ := id ok
  refine zCv_post (fun M2 h => ?_) (c_X8_goesHome (nt := nt) (np := np) (a := a) J hk ho (by rw [asd_o _ (by decide)]; exact hnt) h10 (by rw [asd_o _ (by decide)]; exact hnp) h8 (by rw [asd_b _ (by omega) (by omega)]; exact kd) (by rw [asd_b _ (by omega) (by omega)]; exact tv) (by rw [asd_b _ (by omega) (by omega)]; exact ha) h12)
  rw [h, rbM_x (asd_x M o), asd_b _ (show o + 1 ≠ o by omega) (by omega), asd_b _ (show o + 2 ≠ o by omega) (by omega), asd_b _ (show o + 3 ≠ o by omega) (by omega), asd_7, asd_o _ (by decide), hts, homeM_F _ _ _ _ _ ha (by omega)]
  rfl
theorem hmR_tv {M : zM} {o nt np a : Nat} (ok : rOK M o nt np a) : tv9 nt (hmR M o np a).1 := by
  obtain ⟨hnt, h10, hnp, h8, kd, tv, ha, h12, hts⟩ := id ok
  exact hm_tv _ _ _ (by omega) (s := (M.1 (o + 3), -4)) ha (by omega) tv
theorem zr8 (M : zM) (o : Nat) (T : zF1) (rf : Int32) : (zr M o T rf).1 (o + 8) = M.1 (o + 8) := zr_off (by omega) (by omega)
theorem c_X8_home {l : Launch} {w : zE} (J : zJ w) {M : zM} {o nt np a : Nat} {k : Int32} (hk : zk o = 8) (ho : o = 138) (ok : rOK M o nt np a) : zCi l w yX8_home cX8_home 3 (some .int) 7 [.ref (w.2.2 o), .int k] M (fun r M2 => zgf o M M2 ∧ r = homR M o np a k) := by
  obtain ⟨hz1, hz2, hz3, hz4, hz5, hz6, hz7, hz8, hz9, hz10, hz11, hz12, hz13, hz14, hz15⟩ := zn8 ho
  refine zCi_of J zm_X8_home [some (.ref (w.2.2 o)), some (.int k), none] (Nat.le_of_ble_eq_true rfl) rfl (fun g hg F X => ?_)
  subst hg
  refine z_iload_n F dX8_home_0 rfl ?_
  refine z_i2l F dX8_home_1 ?_
  refine z_lconst (v := 0) F dX8_home_2 (by decide) ?_
  refine z_ldc2 F dX8_home_3 cl_X8_115 ?_
  refine z_callSi F (d_X8_in J (a := 0) (b := 2) (by decide) (by decide)) zm_X8_in zst_X8_in ml_X8_72 rfl rfl (Nat.le_of_ble_eq_true rfl) dX8_home_6 (by omega) (fun r_6 M_6 h_6 => ?_)
  obtain ⟨e_6, rfl⟩ := h_6
  replace e_6 := Eq.symm e_6
  subst e_6
  refine z_if_ne (tgt := 14) F dX8_home_9 (by decide) (fun h_9 => ?_) (fun h_9 => ?_)
  · replace h_9 := bI_1.mp h_9
    try simp only [zr_T, zr_rf, zr8, asd_8] at h_9
    refine z_aload_n F dX8_home_14 rfl ?_
    refine z_callVv F (c_X8_asides J hk ho) zm_X8_asides zv_X8_asides ml_X8_195 (by with_reducible assumption) (by decide) rfl rfl rfl (Nat.le_of_ble_eq_true rfl) dX8_home_15 (by omega) (fun M_15 h_15 => ?_)
    replace h_15 := Eq.symm h_15
    subst h_15
    refine z_aload_n F dX8_home_18 rfl ?_
    refine z_bipush (v := (-4)) F dX8_home_19 (by decide) ?_
    refine zp_X8_more F (by with_reducible assumption) fl_X8_186 dX8_home_21 ?_
    rw [show zs (za M (o + 8) (M.1 (o + 3))) o 7 (-4) = asd M o from rfl]
    refine z_aload_n F dX8_home_24 rfl ?_
    refine z_callVv F (d_goesHome J hk ho ok) zm_X8_goesHome zv_X8_goesHome ml_X8_198 (by with_reducible assumption) (by decide) rfl rfl rfl (Nat.le_of_ble_eq_true rfl) dX8_home_25 (by omega) (fun M_25 h_25 => ?_)
    replace h_25 := Eq.symm h_25
    subst h_25
    refine z_iload_n F dX8_home_28 rfl ?_
    refine z_if_ne (tgt := 41) F dX8_home_29 (by decide) (fun h_29 => ?_) (fun h_29 => ?_)
    · try simp only [zr_T, zr_rf, zr8, asd_8] at h_29
      refine z_iload_n F dX8_home_41 rfl ?_
      refine z_iconst (v := 1) F dX8_home_42 (by decide) ?_
      refine z_ic_ne (tgt := 62) F dX8_home_43 (by decide) (fun h_43 => ?_) (fun h_43 => ?_)
      · try simp only [zr_T, zr_rf, zr8, asd_8] at h_43
        refine z_aload_n F dX8_home_62 rfl ?_
        refine zg_X8_refused F (by with_reducible assumption) fl_X8_179 dX8_home_63 ?_
        try simp only [zr_T, zr_rf, zr8, asd_8]
        refine z_istore_n (lv' := [_, _, _]) F dX8_home_66 (by decide) rfl rfl ?_
        refine z_aload_n F dX8_home_67 rfl ?_
        refine z_callVv F (c_X8_backs J hk ho) zm_X8_backs zv_X8_backs ml_X8_201 (by with_reducible assumption) (by decide) rfl rfl rfl (Nat.le_of_ble_eq_true rfl) dX8_home_68 (by omega) (fun M_68 h_68 => ?_)
        replace h_68 := Eq.symm h_68
        subst h_68
        refine z_iload_n F dX8_home_71 rfl ?_
        refine z_iret F X dX8_home_72 ?_
        exact ⟨zgf.back (asd_x M o).r (by rw [zr8, asd_8]), by unfold homR; rw [if_neg (by grind), if_neg h_29, if_neg h_43]⟩
      · try simp only [zr_T, zr_rf, zr8, asd_8] at h_43
        refine z_aload_n F dX8_home_46 rfl ?_
        refine zg_X8_now F (by with_reducible assumption) fl_X8_16 dX8_home_47 (fun hk_47 => ?_)
        refine z_iconst (v := 4) F dX8_home_50 (by decide) ?_
        refine z_iald10n (q := 4) F (by with_reducible assumption) (by decide) (by rw [hz3]; omega) dX8_home_51 ?_
        try simp only [zr_T, zr_rf, zr8, asd_8]
        refine z_aload_n F dX8_home_52 rfl ?_
        refine zg_X8_aside F (by with_reducible assumption) fl_X8_31 dX8_home_53 (fun hk_53 => ?_)
        refine z_iconst (v := 4) F dX8_home_56 (by decide) ?_
        refine z_iald10n (q := 4) F (by with_reducible assumption) (by decide) (by rw [hz8]; omega) dX8_home_57 ?_
        try simp only [zr_T, zr_rf, zr8, asd_8]
        refine z_isub F dX8_home_58 ?_
        refine z_goto (tgt := 66) F dX8_home_59 (by decide) ?_
        refine z_istore_n (lv' := [_, _, _]) F dX8_home_66 (by decide) rfl rfl ?_
        refine z_aload_n F dX8_home_67 rfl ?_
        refine z_callVv F (c_X8_backs J hk ho) zm_X8_backs zv_X8_backs ml_X8_201 (by with_reducible assumption) (by decide) rfl rfl rfl (Nat.le_of_ble_eq_true rfl) dX8_home_68 (by omega) (fun M_68 h_68 => ?_)
        replace h_68 := Eq.symm h_68
        subst h_68
        refine z_iload_n F dX8_home_71 rfl ?_
        refine z_iret F X dX8_home_72 ?_
        exact ⟨zgf.back (asd_x M o).r (by rw [zr8, asd_8]), by unfold homR; rw [if_neg (by grind), if_neg h_29, if_pos h_43]⟩
    · try simp only [zr_T, zr_rf, zr8, asd_8] at h_29
      refine z_aload_n F dX8_home_32 rfl ?_
      refine zg_X8_now F (by with_reducible assumption) fl_X8_16 dX8_home_33 (fun hk_33 => ?_)
      refine z_iconst (v := 0) F dX8_home_36 (by decide) ?_
      refine z_iald10n (q := 0) F (by with_reducible assumption) (by decide) (by rw [hz3]; omega) dX8_home_37 ?_
      try simp only [zr_T, zr_rf, zr8, asd_8]
      refine z_goto (tgt := 66) F dX8_home_38 (by decide) ?_
      refine z_istore_n (lv' := [_, _, _]) F dX8_home_66 (by decide) rfl rfl ?_
      refine z_aload_n F dX8_home_67 rfl ?_
      refine z_callVv F (c_X8_backs J hk ho) zm_X8_backs zv_X8_backs ml_X8_201 (by with_reducible assumption) (by decide) rfl rfl rfl (Nat.le_of_ble_eq_true rfl) dX8_home_68 (by omega) (fun M_68 h_68 => ?_)
      replace h_68 := Eq.symm h_68
      subst h_68
      refine z_iload_n F dX8_home_71 rfl ?_
      refine z_iret F X dX8_home_72 ?_
      exact ⟨zgf.back (asd_x M o).r (by rw [zr8, asd_8]), by unfold homR; rw [if_neg (by grind), if_pos h_29]⟩
  · replace h_9 := bI_0.mp h_9
    try simp only [zr_T, zr_rf, zr8, asd_8] at h_9
    refine z_iconst (v := (-1)) F dX8_home_12 (by decide) ?_
    refine z_iret F X dX8_home_13 ?_
    exact ⟨zgf.rf ok.2.2.2.2.2.2.2.2, by unfold homR; rw [if_pos (by grind)]⟩
def lostR (M : zM) (o np a : Nat) : Int32 := wrt (M.1 (o + 1)) (M.1 (o + 3) 0) - wrt (M.1 (o + 1)) ((hmR M o np a).1 0)
theorem zr1 (M : zM) (o : Nat) (T : zF1) (rf : Int32) : (zr M o T rf).1 (o + 1) = M.1 (o + 1) := zr_off (by omega) (by omega)
theorem asd_1 (M : zM) (o : Nat) : (asd M o).1 (o + 1) = M.1 (o + 1) := asd_b M (by omega) (by omega)
theorem c_X8_lost {l : Launch} {w : zE} (J : zJ w) {M : zM} {o nt np a : Nat} (hk : zk o = 8) (ho : o = 138) (ok : rOK M o nt np a) : zCi l w yX8_lost cX8_lost 2 (some .int) 7 [.ref (w.2.2 o)] M (fun r M2 => zgf o M M2 ∧ r = lostR M o np a) := by
  obtain ⟨hz1, hz2, hz3, hz4, hz5, hz6, hz7, hz8, hz9, hz10, hz11, hz12, hz13, hz14, hz15⟩ := zn8 ho
  refine zCi_of J zm_X8_lost [some (.ref (w.2.2 o)), none] (Nat.le_of_ble_eq_true rfl) rfl (fun g hg F X => ?_)
  subst hg
  refine z_aload_n F dX8_lost_0 rfl ?_
  refine z_callVv F (c_X8_asides J hk ho) zm_X8_asides zv_X8_asides ml_X8_195 (by with_reducible assumption) (by decide) rfl rfl rfl (Nat.le_of_ble_eq_true rfl) dX8_lost_1 (by omega) (fun M_1 h_1 => ?_)
  replace h_1 := Eq.symm h_1
  subst h_1
  refine z_aload_n F dX8_lost_4 rfl ?_
  refine z_bipush (v := (-4)) F dX8_lost_5 (by decide) ?_
  refine zp_X8_more F (by with_reducible assumption) fl_X8_186 dX8_lost_7 ?_
  rw [show zs (za M (o + 8) (M.1 (o + 3))) o 7 (-4) = asd M o from rfl]
  refine z_aload_n F dX8_lost_10 rfl ?_
  refine z_callVv F (d_goesHome J hk ho ok) zm_X8_goesHome zv_X8_goesHome ml_X8_198 (by with_reducible assumption) (by decide) rfl rfl rfl (Nat.le_of_ble_eq_true rfl) dX8_lost_11 (by omega) (fun M_11 h_11 => ?_)
  replace h_11 := Eq.symm h_11
  subst h_11
  refine z_aload_n F dX8_lost_14 rfl ?_
  refine z_aload_n F dX8_lost_15 rfl ?_
  refine zg_X8_aside F (by with_reducible assumption) fl_X8_31 dX8_lost_16 (fun hk_16 => ?_)
  refine z_iconst (v := 0) F dX8_lost_19 (by decide) ?_
  refine z_iald10n (q := 0) F (by with_reducible assumption) (by decide) (by rw [hz8]; omega) dX8_lost_20 ?_
  try simp only [zr_T, zr_rf, zr8, asd_8]
  refine z_callVi F (c_X8_worth (nt := nt) J hk ho ok.2.2.2.2.2.1.1 ok.2.1) zm_X8_worth zv_X8_worth ml_X8_173 (by with_reducible assumption) (by decide) rfl rfl rfl (Nat.le_of_ble_eq_true rfl) dX8_lost_21 (by omega) (fun r_21 M_21 h_21 => ?_)
  obtain ⟨e_21, rfl⟩ := h_21
  replace e_21 := Eq.symm e_21
  subst e_21
  refine z_aload_n F dX8_lost_24 rfl ?_
  refine z_aload_n F dX8_lost_25 rfl ?_
  refine zg_X8_now F (by with_reducible assumption) fl_X8_16 dX8_lost_26 (fun hk_26 => ?_)
  refine z_iconst (v := 0) F dX8_lost_29 (by decide) ?_
  refine z_iald10n (q := 0) F (by with_reducible assumption) (by decide) (by rw [hz3]; omega) dX8_lost_30 ?_
  try simp only [zr_T, zr_rf, zr8, asd_8]
  refine z_callVi F (c_X8_worth (nt := nt) J hk ho (hmR_tv ok).1 ok.2.1) zm_X8_worth zv_X8_worth ml_X8_173 (by with_reducible assumption) (by decide) rfl rfl rfl (Nat.le_of_ble_eq_true rfl) dX8_lost_31 (by omega) (fun r_31 M_31 h_31 => ?_)
  obtain ⟨e_31, rfl⟩ := h_31
  replace e_31 := Eq.symm e_31
  subst e_31
  refine z_isub F dX8_lost_34 ?_
  refine z_istore_n (lv' := [_, _]) F dX8_lost_35 (by decide) rfl rfl ?_
  refine z_aload_n F dX8_lost_36 rfl ?_
  refine z_callVv F (c_X8_backs J hk ho) zm_X8_backs zv_X8_backs ml_X8_201 (by with_reducible assumption) (by decide) rfl rfl rfl (Nat.le_of_ble_eq_true rfl) dX8_lost_37 (by omega) (fun M_37 h_37 => ?_)
  replace h_37 := Eq.symm h_37
  subst h_37
  refine z_iload_n F dX8_lost_40 rfl ?_
  refine z_iret F X dX8_lost_41 ?_
  refine ⟨zgf.back (asd_x M o).r (by rw [zr8, asd_8]), ?_⟩
  rw [zr1, asd_1]
  rfl
end
section
theorem d_home_at {l : Launch} {w : zE} (J : zJ w) {M M' : zM} {o nt np a : Nat} (hk : zk o = 8) (ho : o = 138) (ok : rOK M o nt np a) (x : zgx o M M') (tv : tv9 nt (M'.1 (o + 3))) (ha : M'.1 (o + 3) 3 = nI a) : zCv l w yX8_goesHome cX8_goesHome 1 6 [.ref (w.2.2 o)] M' (fun M2 => M2 = zr M' o (homeM (rbM (M.1 o)) (M.1 (o + 1)) (M.1 (o + 2)) np (M'.1 o 7) (M'.1 o 8) (12 - a) (M'.1 (o + 3), -4)).1 (homeM (rbM (M.1 o)) (M.1 (o + 1)) (M.1 (o + 2)) np (M'.1 o 7) (M'.1 o 8) (12 - a) (M'.1 (o + 3), -4)).2) := by
  obtain ⟨hnt, h10, hnp, h8, kd, _, _, h12, hts⟩ := id ok
  have e1 := x.2.1 (o + 1) (by omega) (by omega) (by omega) (by omega) (by omega)
  have e2 := x.2.1 (o + 2) (by omega) (by omega) (by omega) (by omega) (by omega)
  refine zCv_post (fun M2 h => ?_) (c_X8_goesHome (nt := nt) (np := np) (a := a) J hk ho (by rw [x.2.2 0 (by decide) (by decide) (by decide)]; exact hnt) h10 (by rw [x.2.2 1 (by decide) (by decide) (by decide)]; exact hnp) h8 (by rw [e1]; exact kd) tv ha h12)
  rw [h, rbM_x x, e1, e2]
theorem asd_f {M : zM} {o : Nat} (h : M.1 o 8 = 0) : zgf o M (asd M o) := ⟨(asd_x M o).1, fun b a1 a2 _ _ => asd_b M a1 a2, (asd_x M o).2.2, by rw [asd_o _ (by decide)]; exact h⟩
def firstR (rb th pe : zF1) (np a : Nat) (T : zF1) (k : Nat) : Int32 := (homeF rb th pe np (12 - a) (va_up (va_up T 0 (nI k)) 1 (if T 0 = -4 then 0 else T 1), -4)).1 0
theorem c_X8_first {l : Launch} {w : zE} (J : zJ w) {M : zM} {o nt np a : Nat} {x : Int32} (hk : zk o = 8) (ho : o = 138) (ok : rOK M o nt np a) : zCi l w yX8_first cX8_first 4 (some .int) 7 [.ref (w.2.2 o), .int x] M (fun r M2 => zgf o M M2 ∧ r = if 0 ≤ x ∧ x < M.1 o 0 then firstL (fun k => whoR (M.1 (o + 3)) (nI k) np) (firstR (rbM (M.1 o)) (M.1 (o + 1)) (M.1 (o + 2)) np a (M.1 (o + 3))) x nt 0 0 else -1) := by
  obtain ⟨hz1, hz2, hz3, hz4, hz5, hz6, hz7, hz8, hz9, hz10, hz11, hz12, hz13, hz14, hz15⟩ := zn8 ho
  obtain ⟨hnt, h10, hnp, h8, kd, tv, ha, h12, hts⟩ := id ok
  refine zCi_of J zm_X8_first [some (.ref (w.2.2 o)), some (.int x), none, none] (Nat.le_of_ble_eq_true rfl) rfl (fun g hg F X => ?_)
  subst hg
  generalize hV : (fun k => whoR (M.1 (o + 3)) (nI k) np) = V at X
  generalize hQ : firstR (rbM (M.1 o)) (M.1 (o + 1)) (M.1 (o + 2)) np a (M.1 (o + 3)) = Q at X
  generalize hr : firstL V Q x nt 0 0 = r at X
  have key : (0 ≤ x ∧ x < M.1 o 0) → ∀ (j k : Nat) (s : Int32) (M' : zM), k + j = nt → zgf o M M' → M'.1 (o + 8) = M.1 (o + 3) → M'.1 o 7 = -4 → firstL V Q x j k s = r → ZW w g 4 25 [some (.ref (w.2.2 o)), some (.int x), some (.int s), some (.int (nI k))] [] M' := by
    intro hx j
    induction j with
    | zero =>
      intro k s M' hkj hf h8a h7 hs
      have e : k = nt := by omega
      subst e
      have e0 := hf.2.2.1 0 (by decide) (by decide) (by decide)
      refine z_iload_n F dX8_first_25 rfl ?_
      refine z_aload_n F dX8_first_26 rfl ?_
      refine zg_X8_things F (by with_reducible assumption) fl_X8_69 dX8_first_27 ?_
      try simp only [e0, hnt]
      refine z_ic_ge (tgt := 111) F dX8_first_30 (by decide) (fun h_30 => ?_) (fun h_30 => absurd h_30 (nlt (Int32.le_refl _)))
      refine z_iload_n F dX8_first_111 rfl ?_
      refine z_iret F X dX8_first_112 ?_
      exact ⟨hf, by rw [if_pos hx]; exact hs⟩
    | succ j ih =>
      intro k s M' hkj hf h8a h7 hs
      have e0 := hf.2.2.1 0 (by decide) (by decide) (by decide)
      have e1 := hf.2.2.1 1 (by decide) (by decide) (by decide)
      have e3 := hf.2.1 (o + 3) (by omega) (by omega) (by omega) (by omega)
      have hVk : V k = whoR (M.1 (o + 3)) (nI k) np := by rw [← hV]
      rw [firstL] at hs
      have g8 : ∀ q v, (zs M' (o + 3) q v).1 (o + 8) = M.1 (o + 3) := fun q v => by rw [zs_off _ (by omega), h8a]
      have hR : ∀ v, (if M.1 (o + 3) 0 = -4 then 0 else M.1 (o + 3) 1) = v → (homeM (rbM (M.1 o)) (M.1 (o + 1)) (M.1 (o + 2)) np (-4) 0 (12 - a) (va_up (va_up (M.1 (o + 3)) 0 (nI k)) 1 v, -4)).1 0 = Q k := fun v hv => by
        rw [homeM_F _ _ _ _ _ (a := a) (by show va_up (va_up (M.1 (o + 3)) 0 (nI k)) 1 v 3 = nI a; rw [va_up_ne _ _ (by decide), va_up_ne _ _ (by decide)]; exact ha) (by omega), ← hQ, ← hv]
        rfl
      refine z_iload_n F dX8_first_25 rfl ?_
      refine z_aload_n F dX8_first_26 rfl ?_
      refine zg_X8_things F (by with_reducible assumption) fl_X8_69 dX8_first_27 ?_
      try simp only [e0, hnt, g8]
      refine z_ic_ge (tgt := 111) F dX8_first_30 (by decide) (fun h_30 => absurd h_30 (nle (nI_lt (by omega) (by omega)))) (fun h_30 => ?_)
      refine z_aload_n F dX8_first_33 rfl ?_
      refine z_iload_n F dX8_first_34 rfl ?_
      refine z_callVi F (c_X8_who J hk ho (np := np) (by rw [e1]; exact hnp) h8) zm_X8_who zv_X8_who ml_X8_95 (by with_reducible assumption) (by decide) rfl rfl rfl (Nat.le_of_ble_eq_true rfl) dX8_first_35 (by omega) (fun r_35 M_35 h_35 => ?_)
      obtain ⟨e_35, rfl⟩ := h_35
      replace e_35 := Eq.symm e_35
      subst e_35
      refine z_bipush (v := (-4)) F dX8_first_38 (by decide) ?_
      rw [e3]
      refine z_ic_ne (tgt := 105) F dX8_first_40 (by decide) (fun h_40 => ?_) (fun h_40 => ?_)
      · try simp only [e0, hnt, g8] at h_40
        refine z_iincc (c := 1) (lv' := [_, _, _, _]) F dX8_first_105 rfl (by decide) (by decide) rfl rfl ?_
        refine z_goto (tgt := 25) F dX8_first_108 (by decide) ?_
        rw [if_neg (fun q => h_40 (hVk.symm.trans q.1))] at hs
        rw [nI_1]
        exact ih (k + 1) _ M' (by omega) hf h8a h7 hs
      · try simp only [e0, hnt, g8] at h_40
        refine z_aload_n F dX8_first_43 rfl ?_
        refine zg_X8_now F (by with_reducible assumption) fl_X8_16 dX8_first_44 (fun hk_44 => ?_)
        refine z_iconst (v := 0) F dX8_first_47 (by decide) ?_
        refine z_iload_n F dX8_first_48 rfl ?_
        refine z_iast10n (q := 0) F (by with_reducible assumption) (by decide) (by rw [hz3]; omega) dX8_first_49 ?_
        refine z_aload_n F dX8_first_50 rfl ?_
        refine zg_X8_now F (by with_reducible assumption) fl_X8_16 dX8_first_51 (fun hk_51 => ?_)
        refine z_iconst (v := 1) F dX8_first_54 (by decide) ?_
        refine z_aload_n F dX8_first_55 rfl ?_
        refine zg_X8_aside F (by with_reducible assumption) fl_X8_31 dX8_first_56 (fun hk_56 => ?_)
        refine z_iconst (v := 0) F dX8_first_59 (by decide) ?_
        refine z_iald10n (q := 0) F (by with_reducible assumption) (by decide) (by rw [hz8]; omega) dX8_first_60 ?_
        try simp only [e0, hnt, g8]
        refine z_bipush (v := (-4)) F dX8_first_61 (by decide) ?_
        refine z_ic_ne (tgt := 70) F dX8_first_63 (by decide) (fun h_63 => ?_) (fun h_63 => ?_)
        · try simp only [e0, hnt, g8] at h_63
          refine z_aload_n F dX8_first_70 rfl ?_
          refine zg_X8_aside F (by with_reducible assumption) fl_X8_31 dX8_first_71 (fun hk_71 => ?_)
          refine z_iconst (v := 1) F dX8_first_74 (by decide) ?_
          refine z_iald10n (q := 1) F (by with_reducible assumption) (by decide) (by rw [hz8]; omega) dX8_first_75 ?_
          try simp only [e0, hnt, g8]
          refine z_iast10n (q := 1) F (by with_reducible assumption) (by decide) (by rw [hz3]; omega) dX8_first_76 ?_
          have hMi : zs (zs M' (o + 3) 0 (nI k)) (o + 3) 1 (M.1 (o + 3) 1) = za M' (o + 3) (va_up (va_up (M.1 (o + 3)) 0 (nI k)) 1 (M.1 (o + 3) 1)) := by
            simp only [zs_za, za_at, za_za]
            rw [e3]
          have hq := hR _ (if_neg h_63)
          rw [hMi]
          refine z_aload_n F dX8_first_77 rfl ?_
          refine z_callVv F (d_home_at J hk ho ok (hf.x.a (Or.inl rfl)) (by rw [za_at]; exact tv9_up1 (tv9_up0 tv (Or.inr ⟨k, by omega, rfl⟩)) 1 _ (Or.inl rfl)) (by rw [za_at, va_up_ne _ _ (by decide), va_up_ne _ _ (by decide)]; exact ha)) zm_X8_goesHome zv_X8_goesHome ml_X8_198 (by with_reducible assumption) (by decide) rfl rfl rfl (Nat.le_of_ble_eq_true rfl) dX8_first_78 (by omega) (fun M_78 h_78 => ?_)
          replace h_78 := Eq.symm h_78
          subst h_78
          rw [za_at, za_off _ (show o ≠ o + 3 by omega), h7, hf.2.2.2]
          refine z_iload_n F dX8_first_81 rfl ?_
          refine z_aload_n F dX8_first_82 rfl ?_
          refine zg_X8_now F (by with_reducible assumption) fl_X8_16 dX8_first_83 (fun hk_83 => ?_)
          refine z_iconst (v := 0) F dX8_first_86 (by decide) ?_
          refine z_iald10n (q := 0) F (by with_reducible assumption) (by decide) (by rw [hz3]; omega) dX8_first_87 ?_
          rw [zr_T, hq]
          refine z_iload_n F dX8_first_88 rfl ?_
          refine z_ic_ne (tgt := 98) F dX8_first_89 (by decide) (fun h_89 => ?_) (fun h_89 => ?_)
          · try simp only [e0, hnt, g8] at h_89
            refine z_iconst (v := 0) F dX8_first_98 (by decide) ?_
            refine z_ior F dX8_first_99 ?_
            refine z_istore_n (lv' := [_, _, _, _]) F dX8_first_100 (by decide) rfl rfl ?_
            refine z_aload_n F dX8_first_101 rfl ?_
            refine z_callVv F (c_X8_backs J hk ho) zm_X8_backs zv_X8_backs ml_X8_201 (by with_reducible assumption) (by decide) rfl rfl rfl (Nat.le_of_ble_eq_true rfl) dX8_first_102 (by omega) (fun M_102 h_102 => ?_)
            replace h_102 := Eq.symm h_102
            subst h_102
            refine z_iincc (c := 1) (lv' := [_, _, _, _]) F dX8_first_105 rfl (by decide) (by decide) rfl rfl ?_
            refine z_goto (tgt := 25) F dX8_first_108 (by decide) ?_
            rw [if_neg (fun q => h_89 q.2)] at hs
            rw [nI_1, Int32.or_zero]
            refine ih (k + 1) _ _ (by omega) (zgf.back (hf.x.a (Or.inl rfl)).r ?_) ?_ ?_ hs
            · rw [zr8, za_off _ (by omega), h8a]
            · rw [zs_off _ (by omega), zs_off _ (by omega), za_off _ (by omega), zr8, za_off _ (by omega), h8a]
            · rw [zs_at, va_up_ne _ _ (by decide), zs_at, va_up_self]
          · try simp only [e0, hnt, g8] at h_89
            refine z_iconst (v := 1) F dX8_first_92 (by decide) ?_
            refine z_iload_n F dX8_first_93 rfl ?_
            refine z_ishl F dX8_first_94 ?_
            refine z_goto (tgt := 99) F dX8_first_95 (by decide) ?_
            refine z_ior F dX8_first_99 ?_
            refine z_istore_n (lv' := [_, _, _, _]) F dX8_first_100 (by decide) rfl rfl ?_
            refine z_aload_n F dX8_first_101 rfl ?_
            refine z_callVv F (c_X8_backs J hk ho) zm_X8_backs zv_X8_backs ml_X8_201 (by with_reducible assumption) (by decide) rfl rfl rfl (Nat.le_of_ble_eq_true rfl) dX8_first_102 (by omega) (fun M_102 h_102 => ?_)
            replace h_102 := Eq.symm h_102
            subst h_102
            refine z_iincc (c := 1) (lv' := [_, _, _, _]) F dX8_first_105 rfl (by decide) (by decide) rfl rfl ?_
            refine z_goto (tgt := 25) F dX8_first_108 (by decide) ?_
            rw [if_pos ⟨hVk.trans h_40, h_89⟩] at hs
            rw [nI_1]
            refine ih (k + 1) _ _ (by omega) (zgf.back (hf.x.a (Or.inl rfl)).r ?_) ?_ ?_ hs
            · rw [zr8, za_off _ (by omega), h8a]
            · rw [zs_off _ (by omega), zs_off _ (by omega), za_off _ (by omega), zr8, za_off _ (by omega), h8a]
            · rw [zs_at, va_up_ne _ _ (by decide), zs_at, va_up_self]
        · try simp only [e0, hnt, g8] at h_63
          refine z_iconst (v := 0) F dX8_first_66 (by decide) ?_
          refine z_goto (tgt := 76) F dX8_first_67 (by decide) ?_
          refine z_iast10n (q := 1) F (by with_reducible assumption) (by decide) (by rw [hz3]; omega) dX8_first_76 ?_
          have hMi : zs (zs M' (o + 3) 0 (nI k)) (o + 3) 1 0 = za M' (o + 3) (va_up (va_up (M.1 (o + 3)) 0 (nI k)) 1 0) := by
            simp only [zs_za, za_at, za_za]
            rw [e3]
          have hq := hR _ (if_pos h_63)
          rw [hMi]
          refine z_aload_n F dX8_first_77 rfl ?_
          refine z_callVv F (d_home_at J hk ho ok (hf.x.a (Or.inl rfl)) (by rw [za_at]; exact tv9_up1 (tv9_up0 tv (Or.inr ⟨k, by omega, rfl⟩)) 1 _ (Or.inl rfl)) (by rw [za_at, va_up_ne _ _ (by decide), va_up_ne _ _ (by decide)]; exact ha)) zm_X8_goesHome zv_X8_goesHome ml_X8_198 (by with_reducible assumption) (by decide) rfl rfl rfl (Nat.le_of_ble_eq_true rfl) dX8_first_78 (by omega) (fun M_78 h_78 => ?_)
          replace h_78 := Eq.symm h_78
          subst h_78
          rw [za_at, za_off _ (show o ≠ o + 3 by omega), h7, hf.2.2.2]
          refine z_iload_n F dX8_first_81 rfl ?_
          refine z_aload_n F dX8_first_82 rfl ?_
          refine zg_X8_now F (by with_reducible assumption) fl_X8_16 dX8_first_83 (fun hk_83 => ?_)
          refine z_iconst (v := 0) F dX8_first_86 (by decide) ?_
          refine z_iald10n (q := 0) F (by with_reducible assumption) (by decide) (by rw [hz3]; omega) dX8_first_87 ?_
          rw [zr_T, hq]
          refine z_iload_n F dX8_first_88 rfl ?_
          refine z_ic_ne (tgt := 98) F dX8_first_89 (by decide) (fun h_89 => ?_) (fun h_89 => ?_)
          · try simp only [e0, hnt, g8] at h_89
            refine z_iconst (v := 0) F dX8_first_98 (by decide) ?_
            refine z_ior F dX8_first_99 ?_
            refine z_istore_n (lv' := [_, _, _, _]) F dX8_first_100 (by decide) rfl rfl ?_
            refine z_aload_n F dX8_first_101 rfl ?_
            refine z_callVv F (c_X8_backs J hk ho) zm_X8_backs zv_X8_backs ml_X8_201 (by with_reducible assumption) (by decide) rfl rfl rfl (Nat.le_of_ble_eq_true rfl) dX8_first_102 (by omega) (fun M_102 h_102 => ?_)
            replace h_102 := Eq.symm h_102
            subst h_102
            refine z_iincc (c := 1) (lv' := [_, _, _, _]) F dX8_first_105 rfl (by decide) (by decide) rfl rfl ?_
            refine z_goto (tgt := 25) F dX8_first_108 (by decide) ?_
            rw [if_neg (fun q => h_89 q.2)] at hs
            rw [nI_1, Int32.or_zero]
            refine ih (k + 1) _ _ (by omega) (zgf.back (hf.x.a (Or.inl rfl)).r ?_) ?_ ?_ hs
            · rw [zr8, za_off _ (by omega), h8a]
            · rw [zs_off _ (by omega), zs_off _ (by omega), za_off _ (by omega), zr8, za_off _ (by omega), h8a]
            · rw [zs_at, va_up_ne _ _ (by decide), zs_at, va_up_self]
          · try simp only [e0, hnt, g8] at h_89
            refine z_iconst (v := 1) F dX8_first_92 (by decide) ?_
            refine z_iload_n F dX8_first_93 rfl ?_
            refine z_ishl F dX8_first_94 ?_
            refine z_goto (tgt := 99) F dX8_first_95 (by decide) ?_
            refine z_ior F dX8_first_99 ?_
            refine z_istore_n (lv' := [_, _, _, _]) F dX8_first_100 (by decide) rfl rfl ?_
            refine z_aload_n F dX8_first_101 rfl ?_
            refine z_callVv F (c_X8_backs J hk ho) zm_X8_backs zv_X8_backs ml_X8_201 (by with_reducible assumption) (by decide) rfl rfl rfl (Nat.le_of_ble_eq_true rfl) dX8_first_102 (by omega) (fun M_102 h_102 => ?_)
            replace h_102 := Eq.symm h_102
            subst h_102
            refine z_iincc (c := 1) (lv' := [_, _, _, _]) F dX8_first_105 rfl (by decide) (by decide) rfl rfl ?_
            refine z_goto (tgt := 25) F dX8_first_108 (by decide) ?_
            rw [if_pos ⟨hVk.trans h_40, h_89⟩] at hs
            rw [nI_1]
            refine ih (k + 1) _ _ (by omega) (zgf.back (hf.x.a (Or.inl rfl)).r ?_) ?_ ?_ hs
            · rw [zr8, za_off _ (by omega), h8a]
            · rw [zs_off _ (by omega), zs_off _ (by omega), za_off _ (by omega), zr8, za_off _ (by omega), h8a]
            · rw [zs_at, va_up_ne _ _ (by decide), zs_at, va_up_self]
  refine z_aload_n F dX8_first_0 rfl ?_
  refine z_iload_n F dX8_first_1 rfl ?_
  refine z_i2l F dX8_first_2 ?_
  refine z_callVi F (d_X8_isThing J hk hnt h10) zm_X8_isThing zv_X8_isThing ml_X8_89 (by with_reducible assumption) (by decide) rfl rfl rfl (Nat.le_of_ble_eq_true rfl) dX8_first_3 (by omega) (fun r_3 M_3 h_3 => ?_)
  obtain ⟨e_3, rfl⟩ := h_3
  replace e_3 := Eq.symm e_3
  subst e_3
  refine z_if_ne (tgt := 11) F dX8_first_6 (by decide) (fun h_6 => ?_) (fun h_6 => ?_)
  · replace h_6 := bI_1.mp h_6
    refine z_aload_n F dX8_first_11 rfl ?_
    refine z_callVv F (c_X8_asides J hk ho) zm_X8_asides zv_X8_asides ml_X8_195 (by with_reducible assumption) (by decide) rfl rfl rfl (Nat.le_of_ble_eq_true rfl) dX8_first_12 (by omega) (fun M_12 h_12 => ?_)
    replace h_12 := Eq.symm h_12
    subst h_12
    refine z_aload_n F dX8_first_15 rfl ?_
    refine z_bipush (v := (-4)) F dX8_first_16 (by decide) ?_
    refine zp_X8_more F (by with_reducible assumption) fl_X8_186 dX8_first_18 ?_
    refine z_iconst (v := 0) F dX8_first_21 (by decide) ?_
    refine z_istore_n (lv' := [_, _, _, _]) F dX8_first_22 (by decide) rfl rfl ?_
    refine z_iconst (v := 0) F dX8_first_23 (by decide) ?_
    refine z_istore_n (lv' := [_, _, _, _]) F dX8_first_24 (by decide) rfl rfl ?_
    exact key h_6 nt 0 0 (asd M o) (by omega) (asd_f hts) (asd_8 M o) (asd_7 M o) hr
  · replace h_6 := bI_0.mp h_6
    refine z_iconst (v := (-1)) F dX8_first_9 (by decide) ?_
    refine z_iret F X dX8_first_10 ?_
    exact ⟨zgf.rf hts, (if_neg h_6).symm⟩
def chtL (W : Nat → Int32) (v : Int32) : Nat → Nat → Int32 × Int32 → Int32 × Int32
  | 0, _, s => s
  | j + 1, h, s => chtL W v j (h + 1) (if W h ≤ v ∧ s.2 < W h then (nI h, W h) else s)
def chtW (rb th pe : zF1) (np a : Nat) (T : zF1) (h : Nat) : Int32 := wrt th (T 0) - wrt th ((homeF (va_up rb 2 (nI h)) th pe np (12 - a) (T, -4)).1 0)
theorem zs_5o (M : zM) (o : Nat) (v : Int32) {k : Nat} (h : k ≠ 5) : (zs M o 5 v).1 o k = M.1 o k := by rw [zs_at, va_up_ne _ _ h]
theorem rOK_5 {M : zM} {o nt np a : Nat} (ok : rOK M o nt np a) (v : Int32) : rOK (zs M o 5 v) o nt np a := by
  unfold rOK at *
  rw [zs_5o _ _ _ (by decide), zs_5o _ _ _ (by decide), zs_5o _ _ _ (by decide), zs_off _ (by omega), zs_off _ (by omega)]
  exact ok
theorem rbM_5 (M : zM) (o : Nat) (v : Int32) : rbM ((zs M o 5 v).1 o) = va_up (rbM (M.1 o)) 2 v := by
  funext k
  rw [zs_at]
  unfold rbM va_up
  by_cases e : k = 2
  · subst e; rfl
  · rw [if_neg e]
    simp only [e, if_false]
    rfl
theorem zs_5_5 (M : zM) (o : Nat) (v u : Int32) : zs (zs M o 5 v) o 5 u = zs M o 5 u := by
  rw [zs_za, zs_at, zs_za, zs_za, za_za, bx_uu]
theorem zgf_5 {M M' : zM} {o : Nat} {v u : Int32} (h : zgf o (zs M o 5 v) M') : zgf o (zs M o 5 u) (zs M' o 5 u) := by
  refine ⟨h.1, fun b a1 a2 a3 a4 => ?_, fun k a1 a2 a3 => ?_, by rw [zs_5o _ _ _ (by decide)]; exact h.2.2.2⟩
  · rw [zs_off _ a1, zs_off _ a1, h.2.1 b a1 a2 a3 a4, zs_off _ a1]
  · by_cases e : k = 5
    · subst e; rw [zs_at, zs_at, va_up_self, va_up_self]
    · rw [zs_5o _ _ _ e, zs_5o _ _ _ e, h.2.2.1 k a1 a2 a3, zs_5o _ _ _ e]
theorem c_X8_cheated {l : Launch} {w : zE} (J : zJ w) {M : zM} {o nt np a : Nat} {v : Int32} (hk : zk o = 8) (ho : o = 138) (ok : rOK M o nt np a) : zCi l w yX8_cheated cX8_cheated 8 (some .int) 8 [.ref (w.2.2 o), .int v] M (fun r M2 => zgf o M M2 ∧ r = if v < -99 ∨ 99 < v then -1 else (chtL (chtW (rbM (M.1 o)) (M.1 (o + 1)) (M.1 (o + 2)) np a (M.1 (o + 3))) v 100 0 (-4, -1000)).1) := by
  refine zCi_of J zm_X8_cheated [some (.ref (w.2.2 o)), some (.int v), none, none, none, none, none, none] (Nat.le_of_ble_eq_true rfl) rfl (fun g hg F X => ?_)
  subst hg
  generalize hW : chtW (rbM (M.1 o)) (M.1 (o + 1)) (M.1 (o + 2)) np a (M.1 (o + 3)) = W at X
  generalize hr : (chtL W v 100 0 (-4, -1000)).1 = r at X
  have hlost : ∀ h, lostR (zs M o 5 (nI h)) o np a = W h := fun h => by
    unfold lostR hmR
    rw [rbM_5, zs_off _ (by omega), zs_off _ (by omega), zs_off _ (by omega), ← hW]
    rfl
  have key : ¬ (v < -99 ∨ 99 < v) → ∀ (j k : Nat) (s : Int32 × Int32) (x6 x7 : Option Value) (M' : zM) (u : Int32), k + j = 100 → zok [none, none, none, none, none, none, x6, x7] 6 = true → zok [none, none, none, none, none, none, x6, x7] 7 = true → zgf o (zs M o 5 u) M' → (chtL W v j k s).1 = r → ZW w g 8 32 [some (.ref (w.2.2 o)), some (.int v), some (.int (M.1 o 5)), some (.int s.1), some (.int s.2), some (.int (nI k)), x6, x7] [] M' := by
    intro hv j
    induction j with
    | zero =>
      intro k s x6 x7 M' u hkj h6 h7 hf hs
      have e : k = 100 := by omega
      subst e
      have hs2 : s.1 = r := hs
      subst hs2
      have e5 : zs M o 5 (M.1 o 5) = M := by rw [zs_za, va_up_id, za_self]
      refine z_iload F dX8_cheated_32 rfl ?_
      refine z_bipush (v := 100) F dX8_cheated_34 (by decide) ?_
      refine z_ic_ge (tgt := 103) F dX8_cheated_36 (by decide) (fun h_36 => ?_) (fun h_36 => absurd h_36 (by decide))
      refine z_aload_n F dX8_cheated_103 rfl ?_
      refine z_iload_n F dX8_cheated_104 rfl ?_
      refine zp_X8_heed F (by with_reducible assumption) fl_X8_60 dX8_cheated_105 ?_
      refine z_iload_n F dX8_cheated_108 rfl ?_
      refine z_iret F X dX8_cheated_109 ?_
      refine ⟨?_, (if_neg hv).symm⟩
      have q := zgf_5 (u := M.1 o 5) hf
      rw [e5] at q
      exact q
    | succ j ih =>
      intro k s x6 x7 M' u hkj h6 h7 hf hs
      rw [chtL] at hs
      have hf2 := zgf_5 (u := nI k) hf
      refine z_iload F dX8_cheated_32 rfl ?_
      refine z_bipush (v := 100) F dX8_cheated_34 (by decide) ?_
      refine z_ic_ge (tgt := 103) F dX8_cheated_36 (by decide) (fun h_36 => absurd h_36 (nle (nI_lt (b := 100) (by omega) (by decide)))) (fun h_36 => ?_)
      refine z_aload_n F dX8_cheated_39 rfl ?_
      refine z_iload F dX8_cheated_40 rfl ?_
      refine zp_X8_heed F (by with_reducible assumption) fl_X8_60 dX8_cheated_42 ?_
      refine z_aload_n F dX8_cheated_45 rfl ?_
      refine z_callVi F (c_X8_lost J hk ho ((rOK_5 ok (nI k)).fr hf2)) zm_X8_lost zv_X8_lost ml_X8_213 (by with_reducible assumption) (by decide) rfl rfl rfl (Nat.le_of_ble_eq_true rfl) dX8_cheated_46 (by omega) (fun r_46 M_46 h_46 => ?_)
      obtain ⟨f1, f2⟩ := h_46
      have f3 : lostR (zs M' o 5 (nI k)) o np a = W k := by
        rw [← hlost k]
        unfold lostR hmR
        rw [rbM_x hf2.x, hf2.2.1 (o + 1) (by omega) (by omega) (by omega) (by omega), hf2.2.1 (o + 2) (by omega) (by omega) (by omega) (by omega), hf2.2.1 (o + 3) (by omega) (by omega) (by omega) (by omega)]
      rw [f3] at f2
      subst f2
      have hf3 := hf2.tr f1
      refine z_istore (lv' := [_, _, _, _, _, _, _, _]) F dX8_cheated_49 (by decide) rfl rfl ?_
      refine z_iload F dX8_cheated_51 rfl ?_
      refine z_iload_n F dX8_cheated_53 rfl ?_
      refine z_ic_gt (tgt := 68) F dX8_cheated_54 (by decide) (fun h_54 => ?_) (fun h_54 => ?_)
      · refine z_iconst (v := 0) F dX8_cheated_68 (by decide) ?_
        refine z_istore (lv' := [_, _, _, _, _, _, _, _]) F dX8_cheated_69 (by decide) rfl rfl ?_
        refine z_iload F dX8_cheated_71 rfl ?_
        refine z_if_eq (tgt := 81) F dX8_cheated_73 (by decide) (fun h_73 => ?_) (fun h_73 => absurd h_73 (by decide))
        refine z_iload_n F dX8_cheated_81 rfl ?_
        refine z_istore_n (lv' := [_, _, _, _, _, _, _, _]) F dX8_cheated_82 (by decide) rfl rfl ?_
        refine z_iload F dX8_cheated_83 rfl ?_
        refine z_if_eq (tgt := 93) F dX8_cheated_85 (by decide) (fun h_85 => ?_) (fun h_85 => absurd h_85 (by decide))
        refine z_iload F dX8_cheated_93 rfl ?_
        refine z_istore (lv' := [_, _, _, _, _, _, _, _]) F dX8_cheated_95 (by decide) rfl rfl ?_
        refine z_iincc (c := 1) (lv' := [_, _, _, _, _, _, _, _]) F dX8_cheated_97 rfl (by decide) (by decide) rfl rfl ?_
        refine z_goto (tgt := 32) F dX8_cheated_100 (by decide) ?_
        rw [if_neg (fun q => absurd q.1 (Int32.not_le.mpr h_54))] at hs
        rw [nI_1]
        exact ih (k + 1) s _ _ _ (nI k) (by omega) rfl rfl hf3 hs
      · refine z_iload F dX8_cheated_57 rfl ?_
        refine z_iload F dX8_cheated_59 rfl ?_
        refine z_ic_le (tgt := 68) F dX8_cheated_61 (by decide) (fun h_61 => ?_) (fun h_61 => ?_)
        · refine z_iconst (v := 0) F dX8_cheated_68 (by decide) ?_
          refine z_istore (lv' := [_, _, _, _, _, _, _, _]) F dX8_cheated_69 (by decide) rfl rfl ?_
          refine z_iload F dX8_cheated_71 rfl ?_
          refine z_if_eq (tgt := 81) F dX8_cheated_73 (by decide) (fun h_73 => ?_) (fun h_73 => absurd h_73 (by decide))
          refine z_iload_n F dX8_cheated_81 rfl ?_
          refine z_istore_n (lv' := [_, _, _, _, _, _, _, _]) F dX8_cheated_82 (by decide) rfl rfl ?_
          refine z_iload F dX8_cheated_83 rfl ?_
          refine z_if_eq (tgt := 93) F dX8_cheated_85 (by decide) (fun h_85 => ?_) (fun h_85 => absurd h_85 (by decide))
          refine z_iload F dX8_cheated_93 rfl ?_
          refine z_istore (lv' := [_, _, _, _, _, _, _, _]) F dX8_cheated_95 (by decide) rfl rfl ?_
          refine z_iincc (c := 1) (lv' := [_, _, _, _, _, _, _, _]) F dX8_cheated_97 rfl (by decide) (by decide) rfl rfl ?_
          refine z_goto (tgt := 32) F dX8_cheated_100 (by decide) ?_
          rw [if_neg (fun q => absurd q.2 (Int32.not_lt.mpr h_61))] at hs
          rw [nI_1]
          exact ih (k + 1) s _ _ _ (nI k) (by omega) rfl rfl hf3 hs
        · refine z_iconst (v := 1) F dX8_cheated_64 (by decide) ?_
          refine z_goto (tgt := 69) F dX8_cheated_65 (by decide) ?_
          refine z_istore (lv' := [_, _, _, _, _, _, _, _]) F dX8_cheated_69 (by decide) rfl rfl ?_
          refine z_iload F dX8_cheated_71 rfl ?_
          refine z_if_eq (tgt := 81) F dX8_cheated_73 (by decide) (fun h_73 => absurd h_73 (by decide)) (fun h_73 => ?_)
          refine z_iload F dX8_cheated_76 rfl ?_
          refine z_goto (tgt := 82) F dX8_cheated_78 (by decide) ?_
          refine z_istore_n (lv' := [_, _, _, _, _, _, _, _]) F dX8_cheated_82 (by decide) rfl rfl ?_
          refine z_iload F dX8_cheated_83 rfl ?_
          refine z_if_eq (tgt := 93) F dX8_cheated_85 (by decide) (fun h_85 => absurd h_85 (by decide)) (fun h_85 => ?_)
          refine z_iload F dX8_cheated_88 rfl ?_
          refine z_goto (tgt := 95) F dX8_cheated_90 (by decide) ?_
          refine z_istore (lv' := [_, _, _, _, _, _, _, _]) F dX8_cheated_95 (by decide) rfl rfl ?_
          refine z_iincc (c := 1) (lv' := [_, _, _, _, _, _, _, _]) F dX8_cheated_97 rfl (by decide) (by decide) rfl rfl ?_
          refine z_goto (tgt := 32) F dX8_cheated_100 (by decide) ?_
          rw [if_pos ⟨h_54, h_61⟩] at hs
          rw [nI_1]
          exact ih (k + 1) (nI k, W k) _ _ _ (nI k) (by omega) rfl rfl hf3 hs
  refine z_iload_n F dX8_cheated_0 rfl ?_
  refine z_i2l F dX8_cheated_1 ?_
  refine z_ldc2 F dX8_cheated_2 cl_X8_211 ?_
  refine z_ldc2 F dX8_cheated_5 cl_X8_81 ?_
  refine z_callSi F (d_X8_in J (a := -99) (b := 99) (by decide) (by decide)) zm_X8_in zst_X8_in ml_X8_72 rfl rfl (Nat.le_of_ble_eq_true rfl) dX8_cheated_8 (by omega) (fun r_8 M_8 h_8 => ?_)
  obtain ⟨e_8, rfl⟩ := h_8
  replace e_8 := Eq.symm e_8
  subst e_8
  refine z_if_ne (tgt := 16) F dX8_cheated_11 (by decide) (fun h_11 => ?_) (fun h_11 => ?_)
  · replace h_11 := bI_1.mp h_11
    refine z_aload_n F dX8_cheated_16 rfl ?_
    refine zg_X8_heed F (by with_reducible assumption) fl_X8_60 dX8_cheated_17 ?_
    refine z_istore_n (lv' := [_, _, _, _, _, _, _, _]) F dX8_cheated_20 (by decide) rfl rfl ?_
    refine z_bipush (v := (-4)) F dX8_cheated_21 (by decide) ?_
    refine z_istore_n (lv' := [_, _, _, _, _, _, _, _]) F dX8_cheated_23 (by decide) rfl rfl ?_
    refine z_sipush (v := (-1000)) F dX8_cheated_24 (by decide) ?_
    refine z_istore (lv' := [_, _, _, _, _, _, _, _]) F dX8_cheated_27 (by decide) rfl rfl ?_
    refine z_iconst (v := 0) F dX8_cheated_29 (by decide) ?_
    refine z_istore (lv' := [_, _, _, _, _, _, _, _]) F dX8_cheated_30 (by decide) rfl rfl ?_
    refine key (by grind) 100 0 (-4, -1000) none none M (M.1 o 5) (by omega) rfl rfl ?_ hr
    rw [zs_za, va_up_id, za_self]
    exact zgf.rf ok.2.2.2.2.2.2.2.2
  · replace h_11 := bI_0.mp h_11
    refine z_iconst (v := (-1)) F dX8_cheated_14 (by decide) ?_
    refine z_iret F X dX8_cheated_15 ?_
    exact ⟨zgf.rf ok.2.2.2.2.2.2.2.2, (if_pos (by grind)).symm⟩
end
section
def stdW (rb th pe : zF1) (np a : Nat) (T : zF1) (p k : Nat) : Int32 := wrt th ((homeF rb th (va_up pe (2 * p) (nI k)) np (12 - a) (T, -4)).1 (5 + p))
theorem rOK_2 {M : zM} {o nt np a : Nat} (ok : rOK M o nt np a) (q : Nat) (v : Int32) : rOK (zs M (o + 2) q v) o nt np a := by
  unfold rOK at *
  rw [zs_off _ (by omega), zs_off _ (by omega), zs_off _ (by omega)]
  exact ok
theorem zgf_2 {M M' : zM} {o q : Nat} {v u : Int32} (h : zgf o (zs M (o + 2) q v) M') : zgf o (zs M (o + 2) q u) (zs M' (o + 2) q u) := by
  refine ⟨h.1, fun b a1 a2 a3 a4 => ?_, fun k a1 a2 a3 => ?_, by rw [zs_off _ (by omega)]; exact h.2.2.2⟩
  · by_cases e : b = o + 2
    · rw [e, zs_at, zs_at, h.2.1 (o + 2) (by omega) (by omega) (by omega) (by omega), zs_at, bx_uu]
    · rw [zs_off _ e, zs_off _ e, h.2.1 b a1 a2 a3 a4, zs_off _ e]
  · rw [zs_off _ (by omega), zs_off _ (by omega), h.2.2.1 k a1 a2 a3, zs_off _ (by omega)]
theorem c_X8_stand {l : Launch} {w : zE} (J : zJ w) {M : zM} {o nt np a : Nat} {x k : Int32} (hk : zk o = 8) (ho : o = 138) (ok : rOK M o nt np a) : zCi l w yX8_stand cX8_stand 8 (some .int) 7 [.ref (w.2.2 o), .int x, .int k] M (fun r M2 => zgf o M M2 ∧ r = if (0 ≤ x ∧ x < M.1 o 1) ∧ ¬ (k < 0 ∨ 1 < k) then (if a = 12 then -2 else if k = 0 then (standL (stdW (rbM (M.1 o)) (M.1 (o + 1)) (M.1 (o + 2)) np a (M.1 (o + 3)) x.toNatClampNeg) (12 - a) a (-1, -4)).2 else (standL (stdW (rbM (M.1 o)) (M.1 (o + 1)) (M.1 (o + 2)) np a (M.1 (o + 3)) x.toNatClampNeg) (12 - a) a (-1, -4)).1) else -1) := by
  obtain ⟨hz1, hz2, hz3, hz4, hz5, hz6, hz7, hz8, hz9, hz10, hz11, hz12, hz13, hz14, hz15⟩ := zn8 ho
  obtain ⟨hnt, h10, hnp, h8, kd, tv, ha, h12, hts⟩ := id ok
  refine zCi_of J zm_X8_stand [some (.ref (w.2.2 o)), some (.int x), some (.int k), none, none, none, none, none] (Nat.le_of_ble_eq_true rfl) rfl (fun g hg F X => ?_)
  subst hg
  have key : ∀ (p : Nat), p < np → x = nI p → ((0 ≤ x ∧ x < M.1 o 1) ∧ ¬ (k < 0 ∨ 1 < k)) → a < 12 → ∀ (j m : Nat) (s : Int32 × Int32) (x7 : Option Value) (M' : zM) (u : Int32), m + j = 12 → zok [none, none, none, none, none, none, none, x7] 7 = true → zgf o (zs M (o + 2) (2 * p) u) M' → M'.1 (o + 8) = M.1 (o + 3) → M'.1 o 7 = -4 → standL (stdW (rbM (M.1 o)) (M.1 (o + 1)) (M.1 (o + 2)) np a (M.1 (o + 3)) p) j m s = standL (stdW (rbM (M.1 o)) (M.1 (o + 1)) (M.1 (o + 2)) np a (M.1 (o + 3)) p) (12 - a) a (-1, -4) → ZW w g 8 68 [some (.ref (w.2.2 o)), some (.int (nI p)), some (.int k), some (.int (M.1 (o + 2) (2 * p))), some (.int s.2), some (.int s.1), some (.int (nI m)), x7] [] M' := by
    intro p hp hxp hc ha12 j
    have hpc : x.toNatClampNeg = p := by rw [hxp]; exact nI_clamp (by omega)
    rw [hpc] at X
    generalize hW : stdW (rbM (M.1 o)) (M.1 (o + 1)) (M.1 (o + 2)) np a (M.1 (o + 3)) p = W at X ⊢
    induction j with
    | zero =>
      intro m s x7 M' u hmj h7z hf h8a h7 hs
      have e : m = 12 := by omega
      subst e
      rw [← hs] at X
      have e5 : zs M (o + 2) (2 * p) (M.1 (o + 2) (2 * p)) = M := by rw [zs_za, va_up_id, za_self]
      have q := zgf_2 (u := M.1 (o + 2) (2 * p)) hf
      rw [e5] at q
      refine z_iload F dX8_stand_68 rfl ?_
      refine z_bipush (v := 12) F dX8_stand_70 (by decide) ?_
      refine z_ic_ge (tgt := 145) F dX8_stand_72 (by decide) (fun h_72 => ?_) (fun h_72 => absurd h_72 (by decide))
      refine z_aload_n F dX8_stand_145 rfl ?_
      refine zg_X8_person F (by with_reducible assumption) fl_X8_13 dX8_stand_146 (fun hk_146 => ?_)
      refine z_iconst (v := 2) F dX8_stand_149 (by decide) ?_
      refine z_iload_n F dX8_stand_150 rfl ?_
      refine z_imul F dX8_stand_151 ?_
      refine z_iload_n F dX8_stand_152 rfl ?_
      refine z_iast10n (q := (2 * p)) F (by with_reducible assumption) (by first | with_reducible rfl | (simp only [n4, n2, n3, n5, n14, n16, na1, na2, na3, nI_add, nI_1, nI_pred]; done) | (simp only [n4, n2, n3, n5, n14, n16, na1, na2, na3, nI_add, nI_1, nI_pred, Nat.add_assoc, Nat.add_comm, Nat.add_left_comm]; done)) (by rw [hz2]; omega) dX8_stand_153 ?_
      refine z_iload_n F dX8_stand_154 rfl ?_
      refine z_if_ne (tgt := 163) F dX8_stand_155 (by decide) (fun h_155 => ?_) (fun h_155 => ?_)
      · refine z_iload F dX8_stand_163 rfl ?_
        refine z_iret F X dX8_stand_165 ?_
        exact ⟨q, by rw [if_pos hc, if_neg (by omega), if_neg h_155]; rfl⟩
      · refine z_iload F dX8_stand_158 rfl ?_
        refine z_goto (tgt := 165) F dX8_stand_160 (by decide) ?_
        refine z_iret F X dX8_stand_165 ?_
        exact ⟨q, by rw [if_pos hc, if_neg (by omega), if_pos h_155]; rfl⟩
    | succ j ih =>
      intro m s x7 M' u hmj h7z hf h8a h7 hs
      rw [standL] at hs
      have hf2 := zgf_2 (u := nI m) hf
      have ok2 := rOK_2 ok (2 * p) (nI m)
      have t3 : (zs M' (o + 2) (2 * p) (nI m)).1 (o + 3) = M.1 (o + 3) := by rw [hf2.2.1 (o + 3) (by omega) (by omega) (by omega) (by omega), zs_off _ (by omega)]
      have t7 : (zs M' (o + 2) (2 * p) (nI m)).1 o 7 = -4 := by rw [zs_off _ (by omega)]; exact h7
      have t8 : (zs M' (o + 2) (2 * p) (nI m)).1 o 8 = 0 := hf2.2.2.2
      have hH : homeM (rbM ((zs M (o + 2) (2 * p) (nI m)).1 o)) ((zs M (o + 2) (2 * p) (nI m)).1 (o + 1)) ((zs M (o + 2) (2 * p) (nI m)).1 (o + 2)) np (-4) 0 (12 - a) (M.1 (o + 3), -4) = homeF (rbM (M.1 o)) (M.1 (o + 1)) (va_up (M.1 (o + 2)) (2 * p) (nI m)) np (12 - a) (M.1 (o + 3), -4) := by
        rw [homeM_F _ _ _ _ _ ha (by omega), zs_off _ (by omega), zs_off _ (by omega), zs_at]
      have tvh : tv9 nt (homeF (rbM (M.1 o)) (M.1 (o + 1)) (va_up (M.1 (o + 2)) (2 * p) (nI m)) np (12 - a) (M.1 (o + 3), -4)).1 := hm_tv _ _ _ (by omega) ha (by omega) tv
      have hWm : wrt (M.1 (o + 1)) ((homeF (rbM (M.1 o)) (M.1 (o + 1)) (va_up (M.1 (o + 2)) (2 * p) (nI m)) np (12 - a) (M.1 (o + 3), -4)).1 (5 + p)) = W m := by rw [← hW]; rfl
      generalize homeF (rbM (M.1 o)) (M.1 (o + 1)) (va_up (M.1 (o + 2)) (2 * p) (nI m)) np (12 - a) (M.1 (o + 3), -4) = H at hH tvh hWm
      have t1 : (zs M' (o + 2) (2 * p) (nI m)).1 (o + 1) = M.1 (o + 1) := by rw [hf2.2.1 (o + 1) (by omega) (by omega) (by omega) (by omega), zs_off _ (by omega)]
      refine z_iload F dX8_stand_68 rfl ?_
      refine z_bipush (v := 12) F dX8_stand_70 (by decide) ?_
      refine z_ic_ge (tgt := 145) F dX8_stand_72 (by decide) (fun h_72 => absurd h_72 (nle (nI_lt (b := 12) (by omega) (by decide)))) (fun h_72 => ?_)
      refine z_aload_n F dX8_stand_75 rfl ?_
      refine zg_X8_person F (by with_reducible assumption) fl_X8_13 dX8_stand_76 (fun hk_76 => ?_)
      refine z_iconst (v := 2) F dX8_stand_79 (by decide) ?_
      refine z_iload_n F dX8_stand_80 rfl ?_
      refine z_imul F dX8_stand_81 ?_
      refine z_iload F dX8_stand_82 rfl ?_
      refine z_iast10n (q := (2 * p)) F (by with_reducible assumption) (by first | with_reducible rfl | (simp only [n4, n2, n3, n5, n14, n16, na1, na2, na3, nI_add, nI_1, nI_pred]; done) | (simp only [n4, n2, n3, n5, n14, n16, na1, na2, na3, nI_add, nI_1, nI_pred, Nat.add_assoc, Nat.add_comm, Nat.add_left_comm]; done)) (by rw [hz2]; omega) dX8_stand_84 ?_
      refine z_aload_n F dX8_stand_85 rfl ?_
      refine z_callVv F (d_home_at J hk ho ok2 hf2.x (by rw [t3]; exact tv) (by rw [t3]; exact ha)) zm_X8_goesHome zv_X8_goesHome ml_X8_198 (by with_reducible assumption) (by decide) rfl rfl rfl (Nat.le_of_ble_eq_true rfl) dX8_stand_86 (by omega) (fun M_86 h_86 => ?_)
      replace h_86 := Eq.symm h_86
      subst h_86
      rw [t3, t7, t8, hH]
      refine z_aload_n F dX8_stand_89 rfl ?_
      refine z_aload_n F dX8_stand_90 rfl ?_
      refine zg_X8_now F (by with_reducible assumption) fl_X8_16 dX8_stand_91 (fun hk_91 => ?_)
      refine z_iconst (v := 5) F dX8_stand_94 (by decide) ?_
      refine z_iload_n F dX8_stand_95 rfl ?_
      refine z_iadd F dX8_stand_96 ?_
      refine z_iald10n (q := (5 + p)) F (by with_reducible assumption) (by first | with_reducible rfl | (simp only [n4, n2, n3, n5, n14, n16, na1, na2, na3, nI_add, nI_1, nI_pred]; done) | (simp only [n4, n2, n3, n5, n14, n16, na1, na2, na3, nI_add, nI_1, nI_pred, Nat.add_assoc, Nat.add_comm, Nat.add_left_comm]; done)) (by rw [hz3]; omega) dX8_stand_97 ?_
      rw [zr_T]
      refine z_callVi F (c_X8_worth J hk ho (tvh.2.1 p (by omega)) h10) zm_X8_worth zv_X8_worth ml_X8_173 (by with_reducible assumption) (by decide) rfl rfl rfl (Nat.le_of_ble_eq_true rfl) dX8_stand_98 (by omega) (fun r_98 M_98 h_98 => ?_)
      obtain ⟨e_98, rfl⟩ := h_98
      replace e_98 := Eq.symm e_98
      subst e_98
      rw [zr1, t1, hWm]
      refine z_istore (lv' := [_, _, _, _, _, _, _, _]) F dX8_stand_101 (by decide) rfl rfl ?_
      refine z_iload F dX8_stand_103 rfl ?_
      refine z_iload F dX8_stand_105 rfl ?_
      refine z_ic_le (tgt := 115) F dX8_stand_107 (by decide) (fun h_107 => ?_) (fun h_107 => ?_)
      · refine z_iload F dX8_stand_115 rfl ?_
        refine z_istore (lv' := [_, _, _, _, _, _, _, _]) F dX8_stand_117 (by decide) rfl rfl ?_
        refine z_iload F dX8_stand_119 rfl ?_
        refine z_iload F dX8_stand_121 rfl ?_
        refine z_ic_le (tgt := 131) F dX8_stand_123 (by decide) (fun h_123 => ?_) (fun h_123 => absurd h_123 (Int32.not_lt.mpr h_107))
        refine z_iload F dX8_stand_131 rfl ?_
        refine z_istore (lv' := [_, _, _, _, _, _, _, _]) F dX8_stand_133 (by decide) rfl rfl ?_
        refine z_aload_n F dX8_stand_135 rfl ?_
        refine z_callVv F (c_X8_backs J hk ho) zm_X8_backs zv_X8_backs ml_X8_201 (by with_reducible assumption) (by decide) rfl rfl rfl (Nat.le_of_ble_eq_true rfl) dX8_stand_136 (by omega) (fun M_136 h_136 => ?_)
        replace h_136 := Eq.symm h_136
        subst h_136
        refine z_iincc (c := 1) (lv' := [_, _, _, _, _, _, _, _]) F dX8_stand_139 rfl (by decide) (by decide) rfl rfl ?_
        refine z_goto (tgt := 68) F dX8_stand_142 (by decide) ?_
        rw [if_neg (Int32.not_lt.mpr h_107)] at hs
        rw [nI_1]
        refine ih (m + 1) s _ _ (nI m) (by omega) rfl (zgf.back hf2.x.r ?_) ?_ ?_ hs
        · rw [zr8, zs_off _ (by omega), h8a, zs_off _ (by omega)]
        · rw [zs_off _ (by omega), zs_off _ (by omega), za_off _ (by omega), zr8, zs_off _ (by omega), h8a]
        · rw [zs_at, va_up_ne _ _ (by decide), zs_at, va_up_self]
      · refine z_iload F dX8_stand_110 rfl ?_
        refine z_goto (tgt := 117) F dX8_stand_112 (by decide) ?_
        refine z_istore (lv' := [_, _, _, _, _, _, _, _]) F dX8_stand_117 (by decide) rfl rfl ?_
        refine z_iload F dX8_stand_119 rfl ?_
        refine z_iload F dX8_stand_121 rfl ?_
        refine z_ic_le (tgt := 131) F dX8_stand_123 (by decide) (fun h_123 => absurd h_123 (Int32.not_le.mpr h_107)) (fun h_123 => ?_)
        refine z_iload F dX8_stand_126 rfl ?_
        refine z_goto (tgt := 133) F dX8_stand_128 (by decide) ?_
        refine z_istore (lv' := [_, _, _, _, _, _, _, _]) F dX8_stand_133 (by decide) rfl rfl ?_
        refine z_aload_n F dX8_stand_135 rfl ?_
        refine z_callVv F (c_X8_backs J hk ho) zm_X8_backs zv_X8_backs ml_X8_201 (by with_reducible assumption) (by decide) rfl rfl rfl (Nat.le_of_ble_eq_true rfl) dX8_stand_136 (by omega) (fun M_136 h_136 => ?_)
        replace h_136 := Eq.symm h_136
        subst h_136
        refine z_iincc (c := 1) (lv' := [_, _, _, _, _, _, _, _]) F dX8_stand_139 rfl (by decide) (by decide) rfl rfl ?_
        refine z_goto (tgt := 68) F dX8_stand_142 (by decide) ?_
        rw [if_pos h_107] at hs
        rw [nI_1]
        refine ih (m + 1) (W m, nI m) _ _ (nI m) (by omega) rfl (zgf.back hf2.x.r ?_) ?_ ?_ hs
        · rw [zr8, zs_off _ (by omega), h8a, zs_off _ (by omega)]
        · rw [zs_off _ (by omega), zs_off _ (by omega), za_off _ (by omega), zr8, zs_off _ (by omega), h8a]
        · rw [zs_at, va_up_ne _ _ (by decide), zs_at, va_up_self]
  have a2 : (asd M o).1 (o + 2) = M.1 (o + 2) := asd_b M (by omega) (by omega)
  have a8 := asd_8 M o
  refine z_aload_n F dX8_stand_0 rfl ?_
  refine z_iload_n F dX8_stand_1 rfl ?_
  refine z_callVi F (c_X8_isPerson J hk hnp h8) zm_X8_isPerson zv_X8_isPerson ml_X8_111 (by with_reducible assumption) (by decide) rfl rfl rfl (Nat.le_of_ble_eq_true rfl) dX8_stand_2 (by omega) (fun r_2 M_2 h_2 => ?_)
  obtain ⟨e_2, rfl⟩ := h_2
  replace e_2 := Eq.symm e_2
  subst e_2
  refine z_if_eq (tgt := 18) F dX8_stand_5 (by decide) (fun h_5 => ?_) (fun h_5 => ?_)
  · replace h_5 := bI_0.mp h_5
    refine z_iconst (v := (-1)) F dX8_stand_18 (by decide) ?_
    refine z_iret F X dX8_stand_19 ?_
    exact ⟨zgf.rf hts, (if_neg (by grind)).symm⟩
  · replace h_5 := bI_1.mp h_5
    refine z_iload_n F dX8_stand_8 rfl ?_
    refine z_i2l F dX8_stand_9 ?_
    refine z_lconst (v := 0) F dX8_stand_10 (by decide) ?_
    refine z_lconst (v := 1) F dX8_stand_11 (by decide) ?_
    refine z_callSi F (d_X8_in J (a := 0) (b := 1) (by decide) (by decide)) zm_X8_in zst_X8_in ml_X8_72 rfl rfl (Nat.le_of_ble_eq_true rfl) dX8_stand_12 (by omega) (fun r_12 M_12 h_12 => ?_)
    obtain ⟨e_12, rfl⟩ := h_12
    replace e_12 := Eq.symm e_12
    subst e_12
    refine z_if_ne (tgt := 20) F dX8_stand_15 (by decide) (fun h_15 => ?_) (fun h_15 => ?_)
    · replace h_15 := bI_1.mp h_15
      refine z_aload_n F dX8_stand_20 rfl ?_
      refine zg_X8_now F (by with_reducible assumption) fl_X8_16 dX8_stand_21 (fun hk_21 => ?_)
      refine z_iconst (v := 3) F dX8_stand_24 (by decide) ?_
      refine z_iald10n (q := 3) F (by with_reducible assumption) (by decide) (by rw [hz3]; omega) dX8_stand_25 ?_
      refine z_bipush (v := 12) F dX8_stand_26 (by decide) ?_
      refine z_ic_ne (tgt := 34) F dX8_stand_28 (by decide) (fun h_28 => ?_) (fun h_28 => ?_)
      · refine z_aload_n F dX8_stand_34 rfl ?_
        refine z_callVv F (c_X8_asides J hk ho) zm_X8_asides zv_X8_asides ml_X8_195 (by with_reducible assumption) (by decide) rfl rfl rfl (Nat.le_of_ble_eq_true rfl) dX8_stand_35 (by omega) (fun M_35 h_35 => ?_)
        replace h_35 := Eq.symm h_35
        subst h_35
        refine z_aload_n F dX8_stand_38 rfl ?_
        refine z_bipush (v := (-4)) F dX8_stand_39 (by decide) ?_
        refine zp_X8_more F (by with_reducible assumption) fl_X8_186 dX8_stand_41 ?_
        rw [show zs (za M (o + 8) (M.1 (o + 3))) o 7 (-4) = asd M o from rfl]
        obtain ⟨p, hp, rfl⟩ := n_in (n := np) (by rw [← hnp]; exact h_5) (by omega)
        refine z_aload_n F dX8_stand_44 rfl ?_
        refine zg_X8_person F (by with_reducible assumption) fl_X8_13 dX8_stand_45 (fun hk_45 => ?_)
        refine z_iconst (v := 2) F dX8_stand_48 (by decide) ?_
        refine z_iload_n F dX8_stand_49 rfl ?_
        refine z_imul F dX8_stand_50 ?_
        refine z_iald10n (q := (2 * p)) F (by with_reducible assumption) (by first | with_reducible rfl | (simp only [n4, n2, n3, n5, n14, n16, na1, na2, na3, nI_add, nI_1, nI_pred]; done) | (simp only [n4, n2, n3, n5, n14, n16, na1, na2, na3, nI_add, nI_1, nI_pred, Nat.add_assoc, Nat.add_comm, Nat.add_left_comm]; done)) (by rw [hz2]; omega) dX8_stand_51 ?_
        rw [a2]
        refine z_istore_n (lv' := [_, _, _, _, _, _, _, _]) F dX8_stand_52 (by decide) rfl rfl ?_
        refine z_bipush (v := (-4)) F dX8_stand_53 (by decide) ?_
        refine z_istore (lv' := [_, _, _, _, _, _, _, _]) F dX8_stand_55 (by decide) rfl rfl ?_
        refine z_iconst (v := (-1)) F dX8_stand_57 (by decide) ?_
        refine z_istore (lv' := [_, _, _, _, _, _, _, _]) F dX8_stand_58 (by decide) rfl rfl ?_
        refine z_aload_n F dX8_stand_60 rfl ?_
        refine zg_X8_aside F (by with_reducible assumption) fl_X8_31 dX8_stand_61 (fun hk_61 => ?_)
        refine z_iconst (v := 3) F dX8_stand_64 (by decide) ?_
        refine z_iald10n (q := 3) F (by with_reducible assumption) (by decide) (by rw [hz8]; omega) dX8_stand_65 ?_
        rw [a8, ha]
        refine z_istore (lv' := [_, _, _, _, _, _, _, _]) F dX8_stand_66 (by decide) rfl rfl ?_
        have ha12 : a ≠ 12 := fun e => h_28 (by rw [ha, e]; rfl)
        refine key p hp rfl ⟨h_5, by grind⟩ (by omega) (12 - a) a (-1, -4) none (asd M o) (M.1 (o + 2) (2 * p)) (by omega) rfl ?_ (asd_8 M o) (asd_7 M o) rfl
        rw [zs_za, va_up_id, za_self]
        exact asd_f hts
      · refine z_bipush (v := (-2)) F dX8_stand_31 (by decide) ?_
        refine z_iret F X dX8_stand_33 ?_
        refine ⟨zgf.rf hts, ?_⟩
        rw [if_pos ⟨h_5, by grind⟩, if_pos]
        rw [ha] at h_28
        exact (nI_eq (b := 12) (by omega) (by decide)).mp h_28
    · replace h_15 := bI_0.mp h_15
      refine z_iconst (v := (-1)) F dX8_stand_18 (by decide) ?_
      refine z_iret F X dX8_stand_19 ?_
      exact ⟨zgf.rf hts, (if_neg (by grind)).symm⟩
end
section
/-- the least milestone, looked for from behind -/
def lurS (Q : Nat → Int32) (x : Int32) (a : Nat) : Nat → Int32 → Int32
  | 0, f => f
  | n + 1, f => lurS Q x a n (if Q (a + n) = x then nI (a + n) else f)
theorem nI12 {m : Nat} (h : m < 13) : ¬ nI m < 0 := nI_pos (by omega)
theorem waitS_end (Q : Nat → Int32) (x : Int32) : ∀ (n a : Nat), a + n < 13 → waitS Q x (n + 1) a = if waitS Q x n a < 0 then (if Q (a + n) = x then nI (a + n) else -1) else waitS Q x n a := by
  intro n
  induction n with
  | zero =>
    intro a h
    show (if Q a = x then nI a else -1) = if (-1 : Int32) < 0 then (if Q (a + 0) = x then nI (a + 0) else -1) else -1
    rw [if_pos (by decide : (-1 : Int32) < 0)]
    rfl
  | succ n ih =>
    intro a h
    rw [waitS, ih (a + 1) (by omega)]
    conv => rhs; rw [waitS]
    by_cases e : Q a = x
    · rw [if_pos e, if_pos e, if_neg (nI12 (by omega))]
    · rw [if_neg e, if_neg e, show a + 1 + n = a + (n + 1) by omega]
theorem lurS_wait (Q : Nat → Int32) (x : Int32) (a : Nat) : ∀ (n : Nat) (f : Int32), a + n < 14 → lurS Q x a n f = if waitS Q x n a < 0 then f else waitS Q x n a := by
  intro n
  induction n with
  | zero => intro f _; rw [lurS, waitS, if_pos (by decide)]
  | succ n ih =>
    intro f h
    rw [lurS, ih _ (by omega), waitS_end Q x n a (by omega)]
    by_cases e1 : waitS Q x n a < 0
    · rw [if_pos e1, if_pos e1]
      by_cases e2 : Q (a + n) = x
      · rw [if_pos e2, if_pos e2, if_neg (nI12 (by omega))]
      · rw [if_neg e2, if_neg e2, if_pos (by decide)]
    · rw [if_neg e1, if_neg e1, if_neg e1]
def lurQ (rb th pe : zF1) (np a : Nat) (T : zF1) (k m : Nat) : Int32 := (homeM rb th pe np (nI m) 0 (12 - a) (va_up T 13 (nI k), -4)).1 13
def lurW (rb th pe : zF1) (np a nt : Nat) (T : zF1) (x : Int32) : Int32 × Int32 := waitL (wrt th) (fun k => whoR T (nI k) np) (fun k => waitS (lurQ rb th pe np a T k) x (12 - a) a) nt 0 (-4, -4)
theorem c_X8_lurk {l : Launch} {w : zE} (J : zJ w) {M : zM} {o nt np a : Nat} {x k : Int32} (hk : zk o = 8) (ho : o = 138) (ok : rOK M o nt np a) : zCi l w yX8_lurk cX8_lurk 9 (some .int) 7 [.ref (w.2.2 o), .int x, .int k] M (fun r M2 => zgf o M M2 ∧ r = if (0 ≤ x ∧ x < M.1 o 0) ∧ ¬ (k < 0 ∨ 1 < k) then (if whoR (M.1 (o + 3)) x np = -4 then -2 else if k = 0 then (lurW (rbM (M.1 o)) (M.1 (o + 1)) (M.1 (o + 2)) np a nt (M.1 (o + 3)) x).1 else (lurW (rbM (M.1 o)) (M.1 (o + 1)) (M.1 (o + 2)) np a nt (M.1 (o + 3)) x).2) else -1) := by
  obtain ⟨hz1, hz2, hz3, hz4, hz5, hz6, hz7, hz8, hz9, hz10, hz11, hz12, hz13, hz14, hz15⟩ := zn8 ho
  obtain ⟨hnt, h10, hnp, h8, kd, tv, ha, h12, hts⟩ := id ok
  refine zCi_of J zm_X8_lurk [some (.ref (w.2.2 o)), some (.int x), some (.int k), none, none, none, none, none, none] (Nat.le_of_ble_eq_true rfl) rfl (fun g hg F X => ?_)
  subst hg
  unfold lurW at X
  generalize hV : (fun k => whoR (M.1 (o + 3)) (nI k) np) = V at X
  generalize hS : (fun k => waitS (lurQ (rbM (M.1 o)) (M.1 (o + 1)) (M.1 (o + 2)) np a (M.1 (o + 3)) k) x (12 - a) a) = S at X
  generalize hr : waitL (wrt (M.1 (o + 1))) V S nt 0 (-4, -4) = r at X
  have inner : ∀ (i : Nat) (s : Int32 × Int32), i < nt → ∀ (R : Int32), (∀ (M' : zM) (x8 : Option Value), zgf o M M' → M'.1 (o + 8) = M.1 (o + 3) → zok [none, none, none, none, none, none, none, none, x8] 8 = true → ZW w g 9 168 [some (.ref (w.2.2 o)), some (.int x), some (.int k), some (.int s.1), some (.int s.2), some (.int (nI i)), some (.int 1), some (.int R), x8] [] M') → ∀ (n : Nat) (f : Int32) (M' : zM), a + n ≤ 12 → lurS (lurQ (rbM (M.1 o)) (M.1 (o + 1)) (M.1 (o + 2)) np a (M.1 (o + 3)) i) x a n f = R → zgf o M M' → M'.1 (o + 8) = M.1 (o + 3) → ZW w g 9 103 [some (.ref (w.2.2 o)), some (.int x), some (.int k), some (.int s.1), some (.int s.2), some (.int (nI i)), some (.int 1), some (.int f), some (.int (nI (a + n) - 1))] [] M' := by
    intro i s hi R K n
    induction n with
    | zero =>
      intro f M' han hR hf h8a
      have hR2 : f = R := hR
      subst hR2
      have hlt : ¬ nI a ≤ nI (a + 0) - 1 := by
        refine Int32.not_le.mpr (Int32.lt_iff_toInt_lt.mpr ?_)
        have h1 := pk_sub_toInt (a := a) (b := 1) (by omega) (by decide)
        have h2 : (nI (a + 0) - 1).toInt = (a : Int) - 1 := h1
        rw [h2, nI_toInt (by omega)]
        omega
      refine z_iload F dX8_lurk_103 rfl ?_
      refine z_aload_n F dX8_lurk_105 rfl ?_
      refine zg_X8_aside F (by with_reducible assumption) fl_X8_31 dX8_lurk_106 (fun hk_106 => ?_)
      refine z_iconst (v := 3) F dX8_lurk_109 (by decide) ?_
      refine z_iald10n (q := 3) F (by with_reducible assumption) (by decide) (by rw [hz8]; omega) dX8_lurk_110 ?_
      try simp only [h8a, ha]
      refine z_ic_lt (tgt := 168) F dX8_lurk_111 (by decide) (fun h_111 => ?_) (fun h_111 => absurd h_111 hlt)
      exact K M' _ hf h8a rfl
    | succ n ih =>
      intro f M' han hR hf h8a
      rw [lurS] at hR
      have e1 : nI (a + (n + 1)) - 1 = nI (a + n) := nI_pred (a + n)
      have e3 := hf.2.1 (o + 3) (by omega) (by omega) (by omega) (by omega)
      rw [e1]
      have hMi : zs (zs M' o 7 (nI (a + n))) (o + 3) 13 (nI i) = za (zs M' o 7 (nI (a + n))) (o + 3) (va_up (M.1 (o + 3)) 13 (nI i)) := by
        rw [zs_za (zs M' o 7 (nI (a + n))), zs_off _ (by omega), e3]
      have xg : zgx o M (za (zs M' o 7 (nI (a + n))) (o + 3) (va_up (M.1 (o + 3)) 13 (nI i))) := (hf.x.s (Or.inl rfl)).a (Or.inl rfl)
      have t3 : (za (zs M' o 7 (nI (a + n))) (o + 3) (va_up (M.1 (o + 3)) 13 (nI i))).1 (o + 3) = va_up (M.1 (o + 3)) 13 (nI i) := za_at _ _ _
      have t7 : (za (zs M' o 7 (nI (a + n))) (o + 3) (va_up (M.1 (o + 3)) 13 (nI i))).1 o 7 = nI (a + n) := by rw [za_off _ (by omega), zs_at, va_up_self]
      have t8 : (za (zs M' o 7 (nI (a + n))) (o + 3) (va_up (M.1 (o + 3)) 13 (nI i))).1 o 8 = 0 := by rw [za_off _ (by omega), zs_at, va_up_ne _ _ (by decide)]; exact hf.2.2.2
      have t88 : (za (zs M' o 7 (nI (a + n))) (o + 3) (va_up (M.1 (o + 3)) 13 (nI i))).1 (o + 8) = M.1 (o + 3) := by rw [za_off _ (by omega), zs_off _ (by omega), h8a]
      generalize hMM : za (zs M' o 7 (nI (a + n))) (o + 3) (va_up (M.1 (o + 3)) 13 (nI i)) = Mi at hMi xg t3 t7 t8 t88
      have hQ : (homeM (rbM (M.1 o)) (M.1 (o + 1)) (M.1 (o + 2)) np (nI (a + n)) 0 (12 - a) (va_up (M.1 (o + 3)) 13 (nI i), -4)).1 13 = lurQ (rbM (M.1 o)) (M.1 (o + 1)) (M.1 (o + 2)) np a (M.1 (o + 3)) i (a + n) := rfl
      refine z_iload F dX8_lurk_103 rfl ?_
      refine z_aload_n F dX8_lurk_105 rfl ?_
      refine zg_X8_aside F (by with_reducible assumption) fl_X8_31 dX8_lurk_106 (fun hk_106 => ?_)
      refine z_iconst (v := 3) F dX8_lurk_109 (by decide) ?_
      refine z_iald10n (q := 3) F (by with_reducible assumption) (by decide) (by rw [hz8]; omega) dX8_lurk_110 ?_
      try simp only [h8a, ha]
      refine z_ic_lt (tgt := 168) F dX8_lurk_111 (by decide) (fun h_111 => absurd h_111 (nlt (nI_le (by omega) (by omega)))) (fun h_111 => ?_)
      refine z_iload F dX8_lurk_114 rfl ?_
      refine z_if_eq (tgt := 168) F dX8_lurk_116 (by decide) (fun h_116 => absurd h_116 (by decide)) (fun h_116 => ?_)
      refine z_aload_n F dX8_lurk_119 rfl ?_
      refine z_iload F dX8_lurk_120 rfl ?_
      refine zp_X8_more F (by with_reducible assumption) fl_X8_186 dX8_lurk_122 ?_
      refine z_aload_n F dX8_lurk_125 rfl ?_
      refine zg_X8_now F (by with_reducible assumption) fl_X8_16 dX8_lurk_126 (fun hk_126 => ?_)
      refine z_bipush (v := 13) F dX8_lurk_129 (by decide) ?_
      refine z_iload F dX8_lurk_131 rfl ?_
      refine z_iast10n (q := 13) F (by with_reducible assumption) (by decide) (by rw [hz3]; omega) dX8_lurk_133 ?_
      rw [hMi]
      refine z_aload_n F dX8_lurk_134 rfl ?_
      refine z_callVv F (d_home_at J hk ho ok xg (by rw [t3]; exact tv9_up5 tv 8 (Or.inr ⟨i, hi, rfl⟩)) (by rw [t3, va_up_ne _ _ (by decide)]; exact ha)) zm_X8_goesHome zv_X8_goesHome ml_X8_198 (by with_reducible assumption) (by decide) rfl rfl rfl (Nat.le_of_ble_eq_true rfl) dX8_lurk_135 (by omega) (fun M_135 h_135 => ?_)
      replace h_135 := Eq.symm h_135
      subst h_135
      rw [t3, t7, t8]
      refine z_aload_n F dX8_lurk_138 rfl ?_
      refine zg_X8_now F (by with_reducible assumption) fl_X8_16 dX8_lurk_139 (fun hk_139 => ?_)
      refine z_bipush (v := 13) F dX8_lurk_142 (by decide) ?_
      refine z_iald10n (q := 13) F (by with_reducible assumption) (by decide) (by rw [hz3]; omega) dX8_lurk_144 ?_
      rw [zr_T, hQ]
      refine z_iload_n F dX8_lurk_145 rfl ?_
      refine z_ic_ne (tgt := 154) F dX8_lurk_146 (by decide) (fun h_146 => ?_) (fun h_146 => ?_)
      · try simp only [h8a, ha] at h_146
        refine z_iload F dX8_lurk_154 rfl ?_
        refine z_istore (lv' := [_, _, _, _, _, _, _, _, _]) F dX8_lurk_156 (by decide) rfl rfl ?_
        refine z_aload_n F dX8_lurk_158 rfl ?_
        refine z_callVv F (c_X8_backs J hk ho) zm_X8_backs zv_X8_backs ml_X8_201 (by with_reducible assumption) (by decide) rfl rfl rfl (Nat.le_of_ble_eq_true rfl) dX8_lurk_159 (by omega) (fun M_159 h_159 => ?_)
        replace h_159 := Eq.symm h_159
        subst h_159
        refine z_iincc (c := (-1)) (lv' := [_, _, _, _, _, _, _, _, _]) F dX8_lurk_162 rfl (by decide) (by decide) rfl rfl ?_
        refine z_goto (tgt := 103) F dX8_lurk_165 (by decide) ?_
        rw [if_neg h_146] at hR
        rw [show nI (a + n) + -1 = nI (a + n) - 1 from (Int32.sub_eq_add_neg _ _).symm]
        refine ih _ _ (by omega) hR (zgf.back xg.r (by rw [zr8, t88])) ?_
        rw [zs_off _ (by omega), zs_off _ (by omega), za_off _ (by omega), zr8, t88]
      · try simp only [h8a, ha] at h_146
        refine z_iload F dX8_lurk_149 rfl ?_
        refine z_goto (tgt := 156) F dX8_lurk_151 (by decide) ?_
        refine z_istore (lv' := [_, _, _, _, _, _, _, _, _]) F dX8_lurk_156 (by decide) rfl rfl ?_
        refine z_aload_n F dX8_lurk_158 rfl ?_
        refine z_callVv F (c_X8_backs J hk ho) zm_X8_backs zv_X8_backs ml_X8_201 (by with_reducible assumption) (by decide) rfl rfl rfl (Nat.le_of_ble_eq_true rfl) dX8_lurk_159 (by omega) (fun M_159 h_159 => ?_)
        replace h_159 := Eq.symm h_159
        subst h_159
        refine z_iincc (c := (-1)) (lv' := [_, _, _, _, _, _, _, _, _]) F dX8_lurk_162 rfl (by decide) (by decide) rfl rfl ?_
        refine z_goto (tgt := 103) F dX8_lurk_165 (by decide) ?_
        rw [if_pos h_146] at hR
        rw [show nI (a + n) + -1 = nI (a + n) - 1 from (Int32.sub_eq_add_neg _ _).symm]
        refine ih _ _ (by omega) hR (zgf.back xg.r (by rw [zr8, t88])) ?_
        rw [zs_off _ (by omega), zs_off _ (by omega), za_off _ (by omega), zr8, t88]
  have key : ((0 ≤ x ∧ x < M.1 o 0) ∧ ¬ (k < 0 ∨ 1 < k)) → ¬ whoR (M.1 (o + 3)) x np = -4 → ∀ (j i : Nat) (s : Int32 × Int32) (x6 x7 x8 : Option Value) (M' : zM), i + j = nt → zok [none, none, none, none, none, none, x6, x7, x8] 6 = true → zok [none, none, none, none, none, none, x6, x7, x8] 7 = true → zok [none, none, none, none, none, none, x6, x7, x8] 8 = true → vx nt s.1 → zgf o M M' → M'.1 (o + 8) = M.1 (o + 3) → waitL (wrt (M.1 (o + 1))) V S j i s = r → ZW w g 9 48 [some (.ref (w.2.2 o)), some (.int x), some (.int k), some (.int s.1), some (.int s.2), some (.int (nI i)), x6, x7, x8] [] M' := by
    intro hc hw j
    induction j with
    | zero =>
      intro i s x6 x7 x8 M' hij h6 h7 h8z hv hf h8a hs
      have e : i = nt := by omega
      subst e
      have hs2 : s = r := hs
      subst hs2
      have e0 := hf.2.2.1 0 (by decide) (by decide) (by decide)
      refine z_iload F dX8_lurk_48 rfl ?_
      refine z_aload_n F dX8_lurk_50 rfl ?_
      refine zg_X8_things F (by with_reducible assumption) fl_X8_69 dX8_lurk_51 ?_
      try simp only [e0, hnt]
      refine z_ic_ge (tgt := 204) F dX8_lurk_54 (by decide) (fun h_54 => ?_) (fun h_54 => absurd h_54 (nlt (Int32.le_refl _)))
      refine z_iload_n F dX8_lurk_204 rfl ?_
      refine z_if_ne (tgt := 212) F dX8_lurk_205 (by decide) (fun h_205 => ?_) (fun h_205 => ?_)
      · try simp only [e0, hnt] at h_205
        refine z_iload F dX8_lurk_212 rfl ?_
        refine z_iret F X dX8_lurk_214 ?_
        exact ⟨hf, by rw [if_pos hc, if_neg hw, if_neg h_205]⟩
      · try simp only [e0, hnt] at h_205
        refine z_iload_n F dX8_lurk_208 rfl ?_
        refine z_goto (tgt := 214) F dX8_lurk_209 (by decide) ?_
        refine z_iret F X dX8_lurk_214 ?_
        exact ⟨hf, by rw [if_pos hc, if_neg hw, if_pos h_205]⟩
    | succ j ih =>
      intro i s x6 x7 x8 M' hij h6 h7 h8z hv hf h8a hs
      have e0 := hf.2.2.1 0 (by decide) (by decide) (by decide)
      have e1 := hf.2.2.1 1 (by decide) (by decide) (by decide)
      have e3 := hf.2.1 (o + 3) (by omega) (by omega) (by omega) (by omega)
      have et := hf.2.1 (o + 1) (by omega) (by omega) (by omega) (by omega)
      have hVi : V i = whoR (M.1 (o + 3)) (nI i) np := by rw [← hV]
      have hSi : S i = waitS (lurQ (rbM (M.1 o)) (M.1 (o + 1)) (M.1 (o + 2)) np a (M.1 (o + 3)) i) x (12 - a) a := by rw [← hS]
      rw [waitL] at hs
      have fin : ∀ (f q6 : Int32) (M'' : zM) (x8 : Option Value), waitL (wrt (M.1 (o + 1))) V S j (i + 1) (if f = -4 then s else (nI i, f)) = r → zgf o M M'' → M''.1 (o + 8) = M.1 (o + 3) → zok [none, none, none, none, none, none, none, none, x8] 8 = true → ZW w g 9 168 [some (.ref (w.2.2 o)), some (.int x), some (.int k), some (.int s.1), some (.int s.2), some (.int (nI i)), some (.int q6), some (.int f), x8] [] M'' := by
        intro f q6 M'' x8 hw2 hf2 h82 hz8
        refine z_iload F dX8_lurk_168 rfl ?_
        refine z_bipush (v := (-4)) F dX8_lurk_170 (by decide) ?_
        refine z_ic_ne (tgt := 179) F dX8_lurk_172 (by decide) (fun h_172 => ?_) (fun h_172 => ?_)
        · refine z_iload F dX8_lurk_179 rfl ?_
          refine z_istore_n (lv' := [_, _, _, _, _, _, _, _, _]) F dX8_lurk_181 (by decide) rfl rfl ?_
          refine z_iload F dX8_lurk_182 rfl ?_
          refine z_bipush (v := (-4)) F dX8_lurk_184 (by decide) ?_
          refine z_ic_ne (tgt := 194) F dX8_lurk_186 (by decide) (fun h_186 => ?_) (fun h_186 => absurd h_186 h_172)
          refine z_iload F dX8_lurk_194 rfl ?_
          refine z_istore (lv' := [_, _, _, _, _, _, _, _, _]) F dX8_lurk_196 (by decide) rfl rfl ?_
          refine z_iincc (c := 1) (lv' := [_, _, _, _, _, _, _, _, _]) F dX8_lurk_198 rfl (by decide) (by decide) rfl rfl ?_
          refine z_goto (tgt := 48) F dX8_lurk_201 (by decide) ?_
          rw [if_neg h_172] at hw2
          rw [nI_1]
          exact ih (i + 1) (nI i, f) _ _ _ M'' (by omega) rfl rfl hz8 (Or.inr ⟨i, by omega, rfl⟩) hf2 h82 hw2
        · refine z_iload_n F dX8_lurk_175 rfl ?_
          refine z_goto (tgt := 181) F dX8_lurk_176 (by decide) ?_
          refine z_istore_n (lv' := [_, _, _, _, _, _, _, _, _]) F dX8_lurk_181 (by decide) rfl rfl ?_
          refine z_iload F dX8_lurk_182 rfl ?_
          refine z_bipush (v := (-4)) F dX8_lurk_184 (by decide) ?_
          refine z_ic_ne (tgt := 194) F dX8_lurk_186 (by decide) (fun h_186 => absurd h_186 (not_not_intro h_172)) (fun h_186 => ?_)
          refine z_iload F dX8_lurk_189 rfl ?_
          refine z_goto (tgt := 196) F dX8_lurk_191 (by decide) ?_
          refine z_istore (lv' := [_, _, _, _, _, _, _, _, _]) F dX8_lurk_196 (by decide) rfl rfl ?_
          refine z_iincc (c := 1) (lv' := [_, _, _, _, _, _, _, _, _]) F dX8_lurk_198 rfl (by decide) (by decide) rfl rfl ?_
          refine z_goto (tgt := 48) F dX8_lurk_201 (by decide) ?_
          rw [if_pos h_172] at hw2
          rw [nI_1]
          exact ih (i + 1) s _ _ _ M'' (by omega) rfl rfl hz8 hv hf2 h82 hw2
      have no : ¬ ((s.1 = -4 ∨ wrt (M.1 (o + 1)) (nI i) < wrt (M.1 (o + 1)) s.1) ∧ V i = -4) → ZW w g 9 103 [some (.ref (w.2.2 o)), some (.int x), some (.int k), some (.int s.1), some (.int s.2), some (.int (nI i)), some (.int 0), some (.int (-4)), some (.int 11)] [] M' := by
        intro hn
        rw [if_neg hn] at hs
        refine z_iload F dX8_lurk_103 rfl ?_
        refine z_aload_n F dX8_lurk_105 rfl ?_
        refine zg_X8_aside F (by with_reducible assumption) fl_X8_31 dX8_lurk_106 (fun hk_106 => ?_)
        refine z_iconst (v := 3) F dX8_lurk_109 (by decide) ?_
        refine z_iald10n (q := 3) F (by with_reducible assumption) (by decide) (by rw [hz8]; omega) dX8_lurk_110 ?_
        refine z_ic_lt (tgt := 168) F dX8_lurk_111 (by decide) (fun h_111 => ?_) (fun h_111 => ?_)
        · exact fin (-4) 0 M' _ (by rw [if_pos rfl]; exact hs) hf h8a rfl
        · refine z_iload F dX8_lurk_114 rfl ?_
          refine z_if_eq (tgt := 168) F dX8_lurk_116 (by decide) (fun h_116 => ?_) (fun h_116 => absurd h_116 (by decide))
          exact fin (-4) 0 M' _ (by rw [if_pos rfl]; exact hs) hf h8a rfl
      have yes : ((s.1 = -4 ∨ wrt (M.1 (o + 1)) (nI i) < wrt (M.1 (o + 1)) s.1) ∧ V i = -4) → ZW w g 9 103 [some (.ref (w.2.2 o)), some (.int x), some (.int k), some (.int s.1), some (.int s.2), some (.int (nI i)), some (.int 1), some (.int (-4)), some (.int 11)] [] M' := by
        intro hy
        rw [if_pos hy] at hs
        have q := inner i s (by omega) _ (fun M'' x8 q1 q2 q3 => fin _ 1 M'' x8 (by
          rw [lurS_wait _ _ _ _ _ (by omega), ← hSi]
          by_cases e : S i < 0
          · rw [if_pos e] at hs
            rw [if_pos e, if_pos rfl]
            exact hs
          · rw [if_neg e] at hs
            rw [if_neg e, if_neg (fun e2 => e (by rw [e2]; decide))]
            exact hs) q1 q2 q3) (12 - a) (-4) M' (by omega) rfl hf h8a
        rw [show a + (12 - a) = 12 by omega, show nI 12 - 1 = 11 from by decide] at q
        exact q
      refine z_iload F dX8_lurk_48 rfl ?_
      refine z_aload_n F dX8_lurk_50 rfl ?_
      refine zg_X8_things F (by with_reducible assumption) fl_X8_69 dX8_lurk_51 ?_
      try simp only [e0, hnt]
      refine z_ic_ge (tgt := 204) F dX8_lurk_54 (by decide) (fun h_54 => absurd h_54 (nle (nI_lt (by omega) (by omega)))) (fun h_54 => ?_)
      refine z_aload_n F dX8_lurk_57 rfl ?_
      refine z_iload F dX8_lurk_58 rfl ?_
      refine z_callVi F (c_X8_who J hk ho (np := np) (by rw [e1]; exact hnp) h8) zm_X8_who zv_X8_who ml_X8_95 (by with_reducible assumption) (by decide) rfl rfl rfl (Nat.le_of_ble_eq_true rfl) dX8_lurk_60 (by omega) (fun r_60 M_60 h_60 => ?_)
      obtain ⟨e_60, rfl⟩ := h_60
      replace e_60 := Eq.symm e_60
      subst e_60
      rw [e3]
      refine z_bipush (v := (-4)) F dX8_lurk_63 (by decide) ?_
      refine z_ic_ne (tgt := 92) F dX8_lurk_65 (by decide) (fun h_65 => ?_) (fun h_65 => ?_)
      · try simp only [e0, hnt] at h_65
        refine z_iconst (v := 0) F dX8_lurk_92 (by decide) ?_
        refine z_istore (lv' := [_, _, _, _, _, _, _, _, _]) F dX8_lurk_93 (by decide) rfl rfl ?_
        refine z_bipush (v := (-4)) F dX8_lurk_95 (by decide) ?_
        refine z_istore (lv' := [_, _, _, _, _, _, _, _, _]) F dX8_lurk_97 (by decide) rfl rfl ?_
        refine z_bipush (v := 11) F dX8_lurk_99 (by decide) ?_
        refine z_istore (lv' := [_, _, _, _, _, _, _, _, _]) F dX8_lurk_101 (by decide) rfl rfl ?_
        exact no (fun q => h_65 (hVi.symm.trans q.2))
      · try simp only [e0, hnt] at h_65
        refine z_iload_n F dX8_lurk_68 rfl ?_
        refine z_bipush (v := (-4)) F dX8_lurk_69 (by decide) ?_
        refine z_ic_eq (tgt := 88) F dX8_lurk_71 (by decide) (fun h_71 => ?_) (fun h_71 => ?_)
        · try simp only [e0, hnt] at h_71
          refine z_iconst (v := 1) F dX8_lurk_88 (by decide) ?_
          refine z_goto (tgt := 93) F dX8_lurk_89 (by decide) ?_
          refine z_istore (lv' := [_, _, _, _, _, _, _, _, _]) F dX8_lurk_93 (by decide) rfl rfl ?_
          refine z_bipush (v := (-4)) F dX8_lurk_95 (by decide) ?_
          refine z_istore (lv' := [_, _, _, _, _, _, _, _, _]) F dX8_lurk_97 (by decide) rfl rfl ?_
          refine z_bipush (v := 11) F dX8_lurk_99 (by decide) ?_
          refine z_istore (lv' := [_, _, _, _, _, _, _, _, _]) F dX8_lurk_101 (by decide) rfl rfl ?_
          exact yes ⟨Or.inl h_71, hVi.trans h_65⟩
        · try simp only [e0, hnt] at h_71
          refine z_aload_n F dX8_lurk_74 rfl ?_
          refine z_iload F dX8_lurk_75 rfl ?_
          refine z_callVi F (c_X8_worth J hk ho (Or.inr ⟨i, by omega, rfl⟩) h10) zm_X8_worth zv_X8_worth ml_X8_173 (by with_reducible assumption) (by decide) rfl rfl rfl (Nat.le_of_ble_eq_true rfl) dX8_lurk_77 (by omega) (fun r_77 M_77 h_77 => ?_)
          obtain ⟨e_77, rfl⟩ := h_77
          replace e_77 := Eq.symm e_77
          subst e_77
          refine z_aload_n F dX8_lurk_80 rfl ?_
          refine z_iload_n F dX8_lurk_81 rfl ?_
          refine z_callVi F (c_X8_worth J hk ho hv h10) zm_X8_worth zv_X8_worth ml_X8_173 (by with_reducible assumption) (by decide) rfl rfl rfl (Nat.le_of_ble_eq_true rfl) dX8_lurk_82 (by omega) (fun r_82 M_82 h_82 => ?_)
          obtain ⟨e_82, rfl⟩ := h_82
          replace e_82 := Eq.symm e_82
          subst e_82
          rw [et]
          refine z_ic_ge (tgt := 92) F dX8_lurk_85 (by decide) (fun h_85 => ?_) (fun h_85 => ?_)
          · try simp only [e0, hnt] at h_85
            refine z_iconst (v := 0) F dX8_lurk_92 (by decide) ?_
            refine z_istore (lv' := [_, _, _, _, _, _, _, _, _]) F dX8_lurk_93 (by decide) rfl rfl ?_
            refine z_bipush (v := (-4)) F dX8_lurk_95 (by decide) ?_
            refine z_istore (lv' := [_, _, _, _, _, _, _, _, _]) F dX8_lurk_97 (by decide) rfl rfl ?_
            refine z_bipush (v := 11) F dX8_lurk_99 (by decide) ?_
            refine z_istore (lv' := [_, _, _, _, _, _, _, _, _]) F dX8_lurk_101 (by decide) rfl rfl ?_
            exact no (fun q => q.1.elim h_71 (Int32.not_lt.mpr h_85))
          · try simp only [e0, hnt] at h_85
            refine z_iconst (v := 1) F dX8_lurk_88 (by decide) ?_
            refine z_goto (tgt := 93) F dX8_lurk_89 (by decide) ?_
            refine z_istore (lv' := [_, _, _, _, _, _, _, _, _]) F dX8_lurk_93 (by decide) rfl rfl ?_
            refine z_bipush (v := (-4)) F dX8_lurk_95 (by decide) ?_
            refine z_istore (lv' := [_, _, _, _, _, _, _, _, _]) F dX8_lurk_97 (by decide) rfl rfl ?_
            refine z_bipush (v := 11) F dX8_lurk_99 (by decide) ?_
            refine z_istore (lv' := [_, _, _, _, _, _, _, _, _]) F dX8_lurk_101 (by decide) rfl rfl ?_
            exact yes ⟨Or.inr h_85, hVi.trans h_65⟩
  refine z_aload_n F dX8_lurk_0 rfl ?_
  refine z_iload_n F dX8_lurk_1 rfl ?_
  refine z_i2l F dX8_lurk_2 ?_
  refine z_callVi F (d_X8_isThing J hk hnt h10) zm_X8_isThing zv_X8_isThing ml_X8_89 (by with_reducible assumption) (by decide) rfl rfl rfl (Nat.le_of_ble_eq_true rfl) dX8_lurk_3 (by omega) (fun r_3 M_3 h_3 => ?_)
  obtain ⟨e_3, rfl⟩ := h_3
  replace e_3 := Eq.symm e_3
  subst e_3
  refine z_if_eq (tgt := 19) F dX8_lurk_6 (by decide) (fun h_6 => ?_) (fun h_6 => ?_)
  · replace h_6 := bI_0.mp h_6
    refine z_iconst (v := (-1)) F dX8_lurk_19 (by decide) ?_
    refine z_iret F X dX8_lurk_20 ?_
    exact ⟨zgf.rf hts, (if_neg (by grind)).symm⟩
  · replace h_6 := bI_1.mp h_6
    refine z_iload_n F dX8_lurk_9 rfl ?_
    refine z_i2l F dX8_lurk_10 ?_
    refine z_lconst (v := 0) F dX8_lurk_11 (by decide) ?_
    refine z_lconst (v := 1) F dX8_lurk_12 (by decide) ?_
    refine z_callSi F (d_X8_in J (a := 0) (b := 1) (by decide) (by decide)) zm_X8_in zst_X8_in ml_X8_72 rfl rfl (Nat.le_of_ble_eq_true rfl) dX8_lurk_13 (by omega) (fun r_13 M_13 h_13 => ?_)
    obtain ⟨e_13, rfl⟩ := h_13
    replace e_13 := Eq.symm e_13
    subst e_13
    refine z_if_ne (tgt := 21) F dX8_lurk_16 (by decide) (fun h_16 => ?_) (fun h_16 => ?_)
    · replace h_16 := bI_1.mp h_16
      refine z_aload_n F dX8_lurk_21 rfl ?_
      refine z_iload_n F dX8_lurk_22 rfl ?_
      refine z_callVi F (c_X8_who J hk ho hnp h8) zm_X8_who zv_X8_who ml_X8_95 (by with_reducible assumption) (by decide) rfl rfl rfl (Nat.le_of_ble_eq_true rfl) dX8_lurk_23 (by omega) (fun r_23 M_23 h_23 => ?_)
      obtain ⟨e_23, rfl⟩ := h_23
      replace e_23 := Eq.symm e_23
      subst e_23
      refine z_bipush (v := (-4)) F dX8_lurk_26 (by decide) ?_
      refine z_ic_ne (tgt := 34) F dX8_lurk_28 (by decide) (fun h_28 => ?_) (fun h_28 => ?_)
      · refine z_aload_n F dX8_lurk_34 rfl ?_
        refine z_callVv F (c_X8_asides J hk ho) zm_X8_asides zv_X8_asides ml_X8_195 (by with_reducible assumption) (by decide) rfl rfl rfl (Nat.le_of_ble_eq_true rfl) dX8_lurk_35 (by omega) (fun M_35 h_35 => ?_)
        replace h_35 := Eq.symm h_35
        subst h_35
        refine z_bipush (v := (-4)) F dX8_lurk_38 (by decide) ?_
        refine z_istore_n (lv' := [_, _, _, _, _, _, _, _, _]) F dX8_lurk_40 (by decide) rfl rfl ?_
        refine z_bipush (v := (-4)) F dX8_lurk_41 (by decide) ?_
        refine z_istore (lv' := [_, _, _, _, _, _, _, _, _]) F dX8_lurk_43 (by decide) rfl rfl ?_
        refine z_iconst (v := 0) F dX8_lurk_45 (by decide) ?_
        refine z_istore (lv' := [_, _, _, _, _, _, _, _, _]) F dX8_lurk_46 (by decide) rfl rfl ?_
        refine key ⟨h_6, by grind⟩ h_28 nt 0 (-4, -4) none none none _ (by omega) rfl rfl rfl (Or.inl rfl) ⟨rfl, fun b a1 a2 a3 a4 => za_off _ a2, fun q a1 a2 a3 => by rw [za_off _ (by omega)], by rw [za_off _ (by omega)]; exact hts⟩ (za_at _ _ _) hr
      · refine z_bipush (v := (-2)) F dX8_lurk_31 (by decide) ?_
        refine z_iret F X dX8_lurk_33 ?_
        exact ⟨zgf.rf hts, by rw [if_pos ⟨h_6, by grind⟩, if_pos h_28]⟩
    · replace h_16 := bI_0.mp h_16
      refine z_iconst (v := (-1)) F dX8_lurk_19 (by decide) ?_
      refine z_iret F X dX8_lurk_20 ?_
      exact ⟨zgf.rf hts, (if_neg (by grind)).symm⟩
end
