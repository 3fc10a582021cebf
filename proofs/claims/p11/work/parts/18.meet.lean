/-- a turn of two who meet: A's turn -/
def turnC (th : zF1) (hd : Int32) (A B : zF1) : Int32 := bI (gladF th 1 hd (feelF th 1 A) (B 0))
def turnA (th : zF1) (hd : Int32) (A B : zF1) : zF1 := if gladF th 1 hd (feelF th 1 A) (B 0) then va_up (va_up (feelF th 1 A) 0 (B 0)) 1 0 else feelF th 1 A
def turnB (th : zF1) (hd : Int32) (A B : zF1) : zF1 := if gladF th 1 hd (feelF th 1 A) (B 0) then va_up (va_up B 0 (A 0)) 1 0 else B
theorem feelF_0 (th : zF1) (c : Int32) (A : zF1) : feelF th c A 0 = A 0 := by unfold feelF; rw [va_up_ne _ _ (by decide), va_up_ne _ _ (by decide)]
theorem c_X0_takesTurn {l : Launch} {w : zE} (J : zJ w) {M : zM} {f t u : Nat} {hd : Int32} (hk : zk f = 0) (ht : zk t = 5) (hu : zk u = 5) (hne : u ≠ t) (h1 : 0 ≤ M.1 t 0 ∧ M.1 t 0 < 10) (h2 : 0 ≤ M.1 u 0 ∧ M.1 u 0 < 10) : zCi l w yX0_takesTurn cX0_takesTurn 5 (some .boolean) 2 [.ref (w.2.2 f), .ref (w.2.2 t), .ref (w.2.2 u), .int hd] M (fun r M2 => M2 = za (za M t (turnA (M.1 (f + 1 + 1)) hd (M.1 t) (M.1 u))) u (turnB (M.1 (f + 1 + 1)) hd (M.1 t) (M.1 u)) ∧ r = turnC (M.1 (f + 1 + 1)) hd (M.1 t) (M.1 u)) := by
  obtain ⟨k1, k15, k17, k19⟩ := zkf0 f (zk_i hk (by decide)) hk
  obtain ⟨r1, r12, r13⟩ := zkf1 (f + 1) (zk_i k1 (by decide)) k1
  have n1 : f + 1 + 1 ≠ t := zk_ne r1 ht (by decide)
  have n2 : f + 1 + 1 ≠ u := zk_ne r1 hu (by decide)
  refine zCi_of J zm_X0_takesTurn [some (.ref (w.2.2 f)), some (.ref (w.2.2 t)), some (.ref (w.2.2 u)), some (.int hd), none] (Nat.le_of_ble_eq_true rfl) rfl (fun g hg F X => ?_)
  subst hg
  generalize hA1 : feelF (M.1 (f + 1 + 1)) 1 (M.1 t) = A1
  have hA0 : A1 0 = M.1 t 0 := by rw [← hA1, feelF_0]
  refine z_aload_n F dX0_takesTurn_0 rfl ?_
  refine zg_X0_road F (by with_reducible assumption) fl_X0_12 dX0_takesTurn_1 (fun hk_1 => ?_)
  refine z_aload_n F dX0_takesTurn_4 rfl ?_
  refine z_iconst (v := 1) F dX0_takesTurn_5 (by decide) ?_
  refine z_callVv F (c_X1_feelOneMore J (by with_reducible assumption) (by with_reducible assumption) h1) zm_X1_feelOneMore zv_X1_feelOneMore ml_X0_99 (by with_reducible assumption) (by decide) rfl rfl rfl (Nat.le_of_ble_eq_true rfl) dX0_takesTurn_6 (by decide) (fun M_6 h_6 => ?_)
  replace h_6 := Eq.symm h_6
  subst h_6
  rw [hA1]
  refine z_aload_n F dX0_takesTurn_9 rfl ?_
  refine zg_X0_road F (by with_reducible assumption) fl_X0_12 dX0_takesTurn_10 (fun hk_10 => ?_)
  refine z_aload_n F dX0_takesTurn_13 rfl ?_
  refine z_aload_n F dX0_takesTurn_14 rfl ?_
  refine zg_X5_his F (by with_reducible assumption) fl_X0_89 dX0_takesTurn_15 ?_
  try simp only [za_off _ hne, za_at, hA0]
  refine z_iload_n F dX0_takesTurn_18 rfl ?_
  refine z_iconst (v := 1) F dX0_takesTurn_19 (by decide) ?_
  refine z_callVi F (c_X1_isGlad J (by with_reducible assumption) (by with_reducible assumption) (by rw [za_at, hA0]; exact h1) (by first | exact h2 | (rw [za_off _ hne]; exact h2))) zm_X1_isGlad zv_X1_isGlad ml_X0_103 (by with_reducible assumption) (by decide) rfl rfl rfl (Nat.le_of_ble_eq_true rfl) dX0_takesTurn_20 (by decide) (fun r_20 M_20 h_20 => ?_)
  obtain ⟨e_20, rfl⟩ := h_20
  replace e_20 := Eq.symm e_20
  subst e_20
  refine z_if_ne (tgt := 28) F dX0_takesTurn_23 (by decide) (fun h_23 => ?_) (fun h_23 => ?_)
  · replace h_23 := bI_1.mp h_23
    try simp only [za_off _ hne, za_at, hA0] at h_23
    refine z_aload_n F dX0_takesTurn_28 rfl ?_
    refine zg_X5_his F (by with_reducible assumption) fl_X0_89 dX0_takesTurn_29 ?_
    try simp only [za_off _ hne, za_at, hA0]
    refine z_istore (lv' := [_, _, _, _, _]) F dX0_takesTurn_32 (by decide) rfl rfl ?_
    refine z_aload_n F dX0_takesTurn_34 rfl ?_
    refine z_aload_n F dX0_takesTurn_35 rfl ?_
    refine zg_X5_his F (by with_reducible assumption) fl_X0_89 dX0_takesTurn_36 ?_
    try simp only [za_off _ hne, za_at, hA0]
    refine z_callVv F (c_X5_hasNew J (by with_reducible assumption)) zm_X5_hasNew zv_X5_hasNew ml_X0_107 (by with_reducible assumption) (by decide) rfl rfl rfl (Nat.le_of_ble_eq_true rfl) dX0_takesTurn_39 (by decide) (fun M_39 h_39 => ?_)
    replace h_39 := Eq.symm h_39
    subst h_39
    refine z_aload_n F dX0_takesTurn_42 rfl ?_
    refine z_iload F dX0_takesTurn_43 rfl ?_
    refine z_callVv F (c_X5_hasNew J (by with_reducible assumption)) zm_X5_hasNew zv_X5_hasNew ml_X0_107 (by with_reducible assumption) (by decide) rfl rfl rfl (Nat.le_of_ble_eq_true rfl) dX0_takesTurn_45 (by decide) (fun M_45 h_45 => ?_)
    replace h_45 := Eq.symm h_45
    subst h_45
    refine z_iconst (v := 1) F dX0_takesTurn_48 (by decide) ?_
    refine z_zret F X dX0_takesTurn_49 (by decide) ?_
    simp only [za_off _ n1, za_at] at h_23
    rw [turnA, turnB, turnC, hA1, if_pos h_23, if_pos h_23]
    refine ⟨?_, bI_t h_23⟩
    simp only [zs_za, za_za, za_at, za_off _ hne]
  · replace h_23 := bI_0.mp h_23
    try simp only [za_off _ hne, za_at, hA0] at h_23
    refine z_iconst (v := 0) F dX0_takesTurn_26 (by decide) ?_
    refine z_zret F X dX0_takesTurn_27 (by decide) ?_
    simp only [za_off _ n1, za_at] at h_23
    rw [turnA, turnB, turnC, hA1, if_neg h_23, if_neg h_23]
    refine ⟨?_, bI_f h_23⟩
    conv => rhs; rw [← za_off M (b := t) (f := A1) hne]
    rw [za_self]
def meetL (th : zF1) (hd : Int32) : Nat → Nat → zF1 × zF1 × Int32 → Int32 × zF1 × zF1
  | 0, _, s => (-4, s.1, s.2.1)
  | j + 1, k, s =>
    if k % 2 = 1 then
      (if (if turnC th hd s.1 s.2.1 = 0 then s.2.2 + 1 else 0) = 2 then (nI k, turnA th hd s.1 s.2.1, turnB th hd s.1 s.2.1)
       else meetL th hd j (k + 1) (turnA th hd s.1 s.2.1, turnB th hd s.1 s.2.1, if turnC th hd s.1 s.2.1 = 0 then s.2.2 + 1 else 0))
    else
      (if (if turnC th 99 s.2.1 s.1 = 0 then s.2.2 + 1 else 0) = 2 then (nI k, turnB th 99 s.2.1 s.1, turnA th 99 s.2.1 s.1)
       else meetL th hd j (k + 1) (turnB th 99 s.2.1 s.1, turnA th 99 s.2.1 s.1, if turnC th 99 s.2.1 s.1 = 0 then s.2.2 + 1 else 0))
theorem turnA_0 (th : zF1) (hd : Int32) (A B : zF1) : turnA th hd A B 0 = B 0 ∨ turnA th hd A B 0 = A 0 := by
  unfold turnA
  split
  · left; rw [va_up_ne _ _ (by decide), va_up_self]
  · right; exact feelF_0 _ _ _
theorem turnB_0 (th : zF1) (hd : Int32) (A B : zF1) : turnB th hd A B 0 = A 0 ∨ turnB th hd A B 0 = B 0 := by
  unfold turnB
  split
  · left; rw [va_up_ne _ _ (by decide), va_up_self]
  · right; rfl
theorem c_X0_turnsWith {l : Launch} {w : zE} (J : zJ w) {M : zM} {f n np a : Nat} {x : Int32} (hk : zk f = 0) (hn : zk n = 6) (hf : f = 87) (hn1 : n = 1) (hx : 0 ≤ x ∧ x < 10) (hh : 0 ≤ M.1 (n + 15) 0 ∧ M.1 (n + 15) 0 < 10) : zCi l w yX0_turnsWith cX0_turnsWith 7 (some .int) 3 [.ref (w.2.2 f), .int x, .ref (w.2.2 n)] M (fun r M2 => zfr M M2 ∧ ∃ U : zF1, U 0 = x ∧ U 1 = 0 ∧ U 2 = 0 ∧ r = (meetL (M.1 (n + 1 + 1)) (M.1 (n + 1) 2) 200 1 (M.1 (n + 15), U, 0)).1 ∧ M2.1 (f + 15) = (meetL (M.1 (n + 1 + 1)) (M.1 (n + 1) 2) 200 1 (M.1 (n + 15), U, 0)).2.1 ∧ M2.1 (f + 17) = (meetL (M.1 (n + 1 + 1)) (M.1 (n + 1) 2) 200 1 (M.1 (n + 15), U, 0)).2.2) := by
  obtain ⟨k1, k15, k17, k19⟩ := zkf0 f (zk_i hk (by decide)) hk
  refine zCi_of J zm_X0_turnsWith [some (.ref (w.2.2 f)), some (.int x), some (.ref (w.2.2 n)), none, none, none, none] (Nat.le_of_ble_eq_true rfl) rfl (fun g hg F X => ?_)
  subst hg
  obtain ⟨U0, hU⟩ : ∃ U : zF1, U = va_up (va_up (va_up (va_up (va_up (M.1 (f + 17)) 0 (-4)) 1 0) 2 0) 3 0) 0 x := ⟨_, rfl⟩
  generalize hr : meetL (M.1 (n + 1 + 1)) (M.1 (n + 1) 2) 200 1 (M.1 (n + 15), U0, 0) = r
  have hfin : ∀ M2, zfr M M2 → M2.1 (f + 15) = r.2.1 → M2.1 (f + 17) = r.2.2 → (fun (q : Int32) (M2 : zM) => zfr M M2 ∧ ∃ U : zF1, U 0 = x ∧ U 1 = 0 ∧ U 2 = 0 ∧ q = (meetL (M.1 (n + 1 + 1)) (M.1 (n + 1) 2) 200 1 (M.1 (n + 15), U, 0)).1 ∧ M2.1 (f + 15) = (meetL (M.1 (n + 1 + 1)) (M.1 (n + 1) 2) 200 1 (M.1 (n + 15), U, 0)).2.1 ∧ M2.1 (f + 17) = (meetL (M.1 (n + 1 + 1)) (M.1 (n + 1) 2) 200 1 (M.1 (n + 15), U, 0)).2.2) r.1 M2 := by
    intro M2 a1 a2 a3
    refine ⟨a1, U0, by rw [hU]; rfl, by rw [hU]; rfl, by rw [hU]; rfl, ?_, ?_, ?_⟩ <;> rw [hr]
    · exact a2
    · exact a3
  have key : ∀ (j k : Nat) (s : zF1 × zF1 × Int32) (x5 x6 : Option Value) (M' : zM), k + j = 201 → zok [none, none, none, none, none, x5, x6] 6 = true → zok [none, none, none, none, none, x5, x6] 5 = true → zfr M M' → M'.1 (f + 1 + 1) = M.1 (n + 1 + 1) → M'.1 (f + 1) = M.1 (n + 1) → M'.1 (f + 15) = s.1 → M'.1 (f + 17) = s.2.1 → (0 ≤ s.1 0 ∧ s.1 0 < 10) → (0 ≤ s.2.1 0 ∧ s.2.1 0 < 10) → meetL (M.1 (n + 1 + 1)) (M.1 (n + 1) 2) j k s = r → ZW w g 7 25 [some (.ref (w.2.2 f)), some (.int x), some (.ref (w.2.2 n)), some (.int s.2.2), some (.int (nI k)), x5, x6] [] M' := by
    intro j
    induction j with
    | zero =>
      intro k s x5 x6 M' hkj hok hok2 hfr p1 p2 p3 p4 v1 v2 hs
      have hkn : k = 201 := by omega
      subst hkn
      have hs : ((-4 : Int32), s.1, s.2.1) = r := hs
      refine z_iload F dX0_turnsWith_25 rfl ?_
      refine z_sipush (v := 200) F dX0_turnsWith_27 (by decide) ?_
      refine z_ic_gt (tgt := 118) F dX0_turnsWith_30 (by decide) (fun h_30 => ?_) (fun h_30 => absurd h_30 (by decide))
      refine z_bipush (v := (-4)) F dX0_turnsWith_118 (by decide) ?_
      refine z_iret F X dX0_turnsWith_120 ?_
      have q := hfin M' hfr (by rw [p3, ← hs]) (by rw [p4, ← hs])
      rw [← hs] at q
      exact q
    | succ j ih =>
      intro k s x5 x6 M' hkj hok hok2 hfr p1 p2 p3 p4 v1 v2 hs
      have hrem : nI k - nI k / 2 * 2 = nI (k % 2) := pk_rem (d := 2) (by omega) (by decide) (by decide)
      have w1 : 0 ≤ M'.1 (f + 15) 0 ∧ M'.1 (f + 15) 0 < 10 := by rw [p3]; exact v1
      have w2 : 0 ≤ M'.1 (f + 17) 0 ∧ M'.1 (f + 17) 0 < 10 := by rw [p4]; exact v2
      rw [meetL] at hs
      refine z_iload F dX0_turnsWith_25 rfl ?_
      refine z_sipush (v := 200) F dX0_turnsWith_27 (by decide) ?_
      refine z_ic_gt (tgt := 118) F dX0_turnsWith_30 (by decide) (fun h_30 => absurd h_30 (Int32.not_lt.mpr (nI_le (b := 200) (by omega) (by decide)))) (fun h_30 => ?_)
      refine z_iload F dX0_turnsWith_33 rfl ?_
      refine z_iconst (v := 2) F dX0_turnsWith_35 (by decide) ?_
      refine z_irem F dX0_turnsWith_36 (by decide) ?_
      rw [hrem]
      refine z_iconst (v := 1) F dX0_turnsWith_37 (by decide) ?_
      refine z_ic_ne (tgt := 45) F dX0_turnsWith_38 (by decide) (fun h_38 => ?_) (fun h_38 => ?_)
      · try simp only [p2] at h_38
        refine z_iconst (v := 0) F dX0_turnsWith_45 (by decide) ?_
        refine z_istore (lv' := [_, _, _, _, _, _, _]) F dX0_turnsWith_46 (by decide) rfl rfl ?_
        refine z_iload F dX0_turnsWith_48 rfl ?_
        refine z_if_eq (tgt := 75) F dX0_turnsWith_50 (by decide) (fun h_50 => ?_) (fun h_50 => absurd h_50 (by decide))
        refine z_aload_n F dX0_turnsWith_75 rfl ?_
        refine z_aload_n F dX0_turnsWith_76 rfl ?_
        refine zg_X0_other F (by with_reducible assumption) fl_X0_25 dX0_turnsWith_77 (fun hk_77 => ?_)
        refine z_aload_n F dX0_turnsWith_80 rfl ?_
        refine zg_X0_trip F (by with_reducible assumption) fl_X0_21 dX0_turnsWith_81 (fun hk_81 => ?_)
        refine z_bipush (v := 99) F dX0_turnsWith_84 (by decide) ?_
        refine z_callVi F (c_X0_takesTurn J hk (by with_reducible assumption) (by with_reducible assumption) (by omega) w2 w1) zm_X0_takesTurn zv_X0_takesTurn ml_X0_95 (by with_reducible assumption) (by decide) rfl rfl rfl (Nat.le_of_ble_eq_true rfl) dX0_turnsWith_86 (by decide) (fun r_86 M_86 h_86 => ?_)
        obtain ⟨e_86, rfl⟩ := h_86
        replace e_86 := Eq.symm e_86
        subst e_86
        refine z_istore (lv' := [_, _, _, _, _, _, _]) F dX0_turnsWith_89 (by decide) rfl rfl ?_
        refine z_iload F dX0_turnsWith_91 rfl ?_
        refine z_if_eq (tgt := 100) F dX0_turnsWith_93 (by decide) (fun h_93 => ?_) (fun h_93 => ?_)
        · replace h_93 := bI_0.mp h_93
          try simp only [p2] at h_93
          refine z_iload_n F dX0_turnsWith_100 rfl ?_
          refine z_iconst (v := 1) F dX0_turnsWith_101 (by decide) ?_
          refine z_iadd F dX0_turnsWith_102 ?_
          refine z_istore_n (lv' := [_, _, _, _, _, _, _]) F dX0_turnsWith_103 (by decide) rfl rfl ?_
          refine z_iload_n F dX0_turnsWith_104 rfl ?_
          refine z_iconst (v := 2) F dX0_turnsWith_105 (by decide) ?_
          refine z_ic_ne (tgt := 112) F dX0_turnsWith_106 (by decide) (fun h_106 => ?_) (fun h_106 => ?_)
          · try simp only [p2] at h_106
            refine z_iincc (c := 1) (lv' := [_, _, _, _, _, _, _]) F dX0_turnsWith_112 rfl (by decide) (by decide) rfl rfl ?_
            refine z_goto (tgt := 25) F dX0_turnsWith_115 (by decide) ?_
            skip
            rw [p1, p3, p4] at h_93
            have hpar : ¬ k % 2 = 1 := fun q => h_38 (by rw [q]; rfl)
            rw [if_neg hpar] at hs
            have hC : turnC (M.1 (n + 1 + 1)) 99 s.2.1 s.1 = 0 := bI_0.mpr h_93
            rw [if_pos hC] at hs
            rw [if_neg h_106] at hs
            rw [nI_1]
            simp only [p1, p3, p4]
            exact ih (k + 1) (turnB (M.1 (n + 1 + 1)) 99 s.2.1 s.1, turnA (M.1 (n + 1 + 1)) 99 s.2.1 s.1, s.2.2 + 1) _ _ _ (by omega) rfl rfl ((hfr.a (by omega)).a (by omega)) (by rw [za_off _ (by omega), za_off _ (by omega), p1]) (by rw [za_off _ (by omega), za_off _ (by omega), p2]) (by rw [za_at]) (by rw [za_off _ (by omega), za_at]) (by rcases turnB_0 (M.1 (n + 1 + 1)) 99 s.2.1 s.1 with e | e <;> (simp only [e]; first | exact v1 | exact v2)) (by rcases turnA_0 (M.1 (n + 1 + 1)) 99 s.2.1 s.1 with e | e <;> (simp only [e]; first | exact v1 | exact v2)) hs
          · try simp only [p2] at h_106
            refine z_iload F dX0_turnsWith_109 rfl ?_
            refine z_iret F X dX0_turnsWith_111 ?_
            skip
            rw [p1, p3, p4] at h_93
            have hpar : ¬ k % 2 = 1 := fun q => h_38 (by rw [q]; rfl)
            rw [if_neg hpar] at hs
            have hC : turnC (M.1 (n + 1 + 1)) 99 s.2.1 s.1 = 0 := bI_0.mpr h_93
            rw [if_pos hC] at hs
            rw [if_pos h_106] at hs
            have q := hfin _ ((hfr.a (b := f + 17) (f := turnA (M.1 (n + 1 + 1)) 99 s.2.1 s.1) (by omega)).a (b := f + 15) (f := turnB (M.1 (n + 1 + 1)) 99 s.2.1 s.1) (by omega)) (by rw [za_at, ← hs]) (by rw [za_off _ (by omega), za_at, ← hs])
            rw [← hs] at q
            simp only [p1, p3, p4]
            exact q
        · replace h_93 := bI_1.mp h_93
          try simp only [p2] at h_93
          refine z_iconst (v := 0) F dX0_turnsWith_96 (by decide) ?_
          refine z_goto (tgt := 103) F dX0_turnsWith_97 (by decide) ?_
          refine z_istore_n (lv' := [_, _, _, _, _, _, _]) F dX0_turnsWith_103 (by decide) rfl rfl ?_
          refine z_iload_n F dX0_turnsWith_104 rfl ?_
          refine z_iconst (v := 2) F dX0_turnsWith_105 (by decide) ?_
          refine z_ic_ne (tgt := 112) F dX0_turnsWith_106 (by decide) (fun h_106 => ?_) (fun h_106 => absurd h_106 (by decide))
          refine z_iincc (c := 1) (lv' := [_, _, _, _, _, _, _]) F dX0_turnsWith_112 rfl (by decide) (by decide) rfl rfl ?_
          refine z_goto (tgt := 25) F dX0_turnsWith_115 (by decide) ?_
          skip
          rw [p1, p3, p4] at h_93
          have hpar : ¬ k % 2 = 1 := fun q => h_38 (by rw [q]; rfl)
          rw [if_neg hpar] at hs
          have hC : ¬ turnC (M.1 (n + 1 + 1)) 99 s.2.1 s.1 = 0 := bI_1.mpr h_93
          rw [if_neg hC] at hs
          rw [if_neg h_106] at hs
          rw [nI_1]
          simp only [p1, p3, p4]
          exact ih (k + 1) (turnB (M.1 (n + 1 + 1)) 99 s.2.1 s.1, turnA (M.1 (n + 1 + 1)) 99 s.2.1 s.1, 0) _ _ _ (by omega) rfl rfl ((hfr.a (by omega)).a (by omega)) (by rw [za_off _ (by omega), za_off _ (by omega), p1]) (by rw [za_off _ (by omega), za_off _ (by omega), p2]) (by rw [za_at]) (by rw [za_off _ (by omega), za_at]) (by rcases turnB_0 (M.1 (n + 1 + 1)) 99 s.2.1 s.1 with e | e <;> (simp only [e]; first | exact v1 | exact v2)) (by rcases turnA_0 (M.1 (n + 1 + 1)) 99 s.2.1 s.1 with e | e <;> (simp only [e]; first | exact v1 | exact v2)) hs
      · try simp only [p2] at h_38
        refine z_iconst (v := 1) F dX0_turnsWith_41 (by decide) ?_
        refine z_goto (tgt := 46) F dX0_turnsWith_42 (by decide) ?_
        refine z_istore (lv' := [_, _, _, _, _, _, _]) F dX0_turnsWith_46 (by decide) rfl rfl ?_
        refine z_iload F dX0_turnsWith_48 rfl ?_
        refine z_if_eq (tgt := 75) F dX0_turnsWith_50 (by decide) (fun h_50 => absurd h_50 (by decide)) (fun h_50 => ?_)
        refine z_aload_n F dX0_turnsWith_53 rfl ?_
        refine z_aload_n F dX0_turnsWith_54 rfl ?_
        refine zg_X0_trip F (by with_reducible assumption) fl_X0_21 dX0_turnsWith_55 (fun hk_55 => ?_)
        refine z_aload_n F dX0_turnsWith_58 rfl ?_
        refine zg_X0_other F (by with_reducible assumption) fl_X0_25 dX0_turnsWith_59 (fun hk_59 => ?_)
        refine z_aload_n F dX0_turnsWith_62 rfl ?_
        refine zg_X0_road F (by with_reducible assumption) fl_X0_12 dX0_turnsWith_63 (fun hk_63 => ?_)
        refine zg_X1_heed F (by with_reducible assumption) fl_X0_92 dX0_turnsWith_66 ?_
        try simp only [p2]
        refine z_callVi F (c_X0_takesTurn J hk (by with_reducible assumption) (by with_reducible assumption) (by omega) w1 w2) zm_X0_takesTurn zv_X0_takesTurn ml_X0_95 (by with_reducible assumption) (by decide) rfl rfl rfl (Nat.le_of_ble_eq_true rfl) dX0_turnsWith_69 (by decide) (fun r_69 M_69 h_69 => ?_)
        obtain ⟨e_69, rfl⟩ := h_69
        replace e_69 := Eq.symm e_69
        subst e_69
        refine z_goto (tgt := 89) F dX0_turnsWith_72 (by decide) ?_
        refine z_istore (lv' := [_, _, _, _, _, _, _]) F dX0_turnsWith_89 (by decide) rfl rfl ?_
        refine z_iload F dX0_turnsWith_91 rfl ?_
        refine z_if_eq (tgt := 100) F dX0_turnsWith_93 (by decide) (fun h_93 => ?_) (fun h_93 => ?_)
        · replace h_93 := bI_0.mp h_93
          try simp only [p2] at h_93
          refine z_iload_n F dX0_turnsWith_100 rfl ?_
          refine z_iconst (v := 1) F dX0_turnsWith_101 (by decide) ?_
          refine z_iadd F dX0_turnsWith_102 ?_
          refine z_istore_n (lv' := [_, _, _, _, _, _, _]) F dX0_turnsWith_103 (by decide) rfl rfl ?_
          refine z_iload_n F dX0_turnsWith_104 rfl ?_
          refine z_iconst (v := 2) F dX0_turnsWith_105 (by decide) ?_
          refine z_ic_ne (tgt := 112) F dX0_turnsWith_106 (by decide) (fun h_106 => ?_) (fun h_106 => ?_)
          · try simp only [p2] at h_106
            refine z_iincc (c := 1) (lv' := [_, _, _, _, _, _, _]) F dX0_turnsWith_112 rfl (by decide) (by decide) rfl rfl ?_
            refine z_goto (tgt := 25) F dX0_turnsWith_115 (by decide) ?_
            skip
            rw [p1, p3, p4] at h_93
            have hpar : k % 2 = 1 := (nI_eq (by omega) (by decide)).mp h_38
            rw [if_pos hpar] at hs
            have hC : turnC (M.1 (n + 1 + 1)) (M.1 (n + 1) 2) s.1 s.2.1 = 0 := bI_0.mpr h_93
            rw [if_pos hC] at hs
            rw [if_neg h_106] at hs
            rw [nI_1]
            simp only [p1, p3, p4]
            exact ih (k + 1) (turnA (M.1 (n + 1 + 1)) (M.1 (n + 1) 2) s.1 s.2.1, turnB (M.1 (n + 1 + 1)) (M.1 (n + 1) 2) s.1 s.2.1, s.2.2 + 1) _ _ _ (by omega) rfl rfl ((hfr.a (by omega)).a (by omega)) (by rw [za_off _ (by omega), za_off _ (by omega), p1]) (by rw [za_off _ (by omega), za_off _ (by omega), p2]) (by rw [za_off _ (by omega), za_at]) (by rw [za_at]) (by rcases turnA_0 (M.1 (n + 1 + 1)) (M.1 (n + 1) 2) s.1 s.2.1 with e | e <;> (simp only [e]; first | exact v1 | exact v2)) (by rcases turnB_0 (M.1 (n + 1 + 1)) (M.1 (n + 1) 2) s.1 s.2.1 with e | e <;> (simp only [e]; first | exact v1 | exact v2)) hs
          · try simp only [p2] at h_106
            refine z_iload F dX0_turnsWith_109 rfl ?_
            refine z_iret F X dX0_turnsWith_111 ?_
            skip
            rw [p1, p3, p4] at h_93
            have hpar : k % 2 = 1 := (nI_eq (by omega) (by decide)).mp h_38
            rw [if_pos hpar] at hs
            have hC : turnC (M.1 (n + 1 + 1)) (M.1 (n + 1) 2) s.1 s.2.1 = 0 := bI_0.mpr h_93
            rw [if_pos hC] at hs
            rw [if_pos h_106] at hs
            have q := hfin _ ((hfr.a (b := f + 15) (f := turnA (M.1 (n + 1 + 1)) (M.1 (n + 1) 2) s.1 s.2.1) (by omega)).a (b := f + 17) (f := turnB (M.1 (n + 1 + 1)) (M.1 (n + 1) 2) s.1 s.2.1) (by omega)) (by rw [za_off _ (by omega), za_at, ← hs]) (by rw [za_at, ← hs])
            rw [← hs] at q
            simp only [p1, p3, p4]
            exact q
        · replace h_93 := bI_1.mp h_93
          try simp only [p2] at h_93
          refine z_iconst (v := 0) F dX0_turnsWith_96 (by decide) ?_
          refine z_goto (tgt := 103) F dX0_turnsWith_97 (by decide) ?_
          refine z_istore_n (lv' := [_, _, _, _, _, _, _]) F dX0_turnsWith_103 (by decide) rfl rfl ?_
          refine z_iload_n F dX0_turnsWith_104 rfl ?_
          refine z_iconst (v := 2) F dX0_turnsWith_105 (by decide) ?_
          refine z_ic_ne (tgt := 112) F dX0_turnsWith_106 (by decide) (fun h_106 => ?_) (fun h_106 => absurd h_106 (by decide))
          refine z_iincc (c := 1) (lv' := [_, _, _, _, _, _, _]) F dX0_turnsWith_112 rfl (by decide) (by decide) rfl rfl ?_
          refine z_goto (tgt := 25) F dX0_turnsWith_115 (by decide) ?_
          skip
          rw [p1, p3, p4] at h_93
          have hpar : k % 2 = 1 := (nI_eq (by omega) (by decide)).mp h_38
          rw [if_pos hpar] at hs
          have hC : ¬ turnC (M.1 (n + 1 + 1)) (M.1 (n + 1) 2) s.1 s.2.1 = 0 := bI_1.mpr h_93
          rw [if_neg hC] at hs
          rw [if_neg h_106] at hs
          rw [nI_1]
          simp only [p1, p3, p4]
          exact ih (k + 1) (turnA (M.1 (n + 1 + 1)) (M.1 (n + 1) 2) s.1 s.2.1, turnB (M.1 (n + 1 + 1)) (M.1 (n + 1) 2) s.1 s.2.1, 0) _ _ _ (by omega) rfl rfl ((hfr.a (by omega)).a (by omega)) (by rw [za_off _ (by omega), za_off _ (by omega), p1]) (by rw [za_off _ (by omega), za_off _ (by omega), p2]) (by rw [za_off _ (by omega), za_at]) (by rw [za_at]) (by rcases turnA_0 (M.1 (n + 1 + 1)) (M.1 (n + 1) 2) s.1 s.2.1 with e | e <;> (simp only [e]; first | exact v1 | exact v2)) (by rcases turnB_0 (M.1 (n + 1 + 1)) (M.1 (n + 1) 2) s.1 s.2.1 with e | e <;> (simp only [e]; first | exact v1 | exact v2)) hs
  refine z_aload_n F dX0_turnsWith_0 rfl ?_
  refine z_aload_n F dX0_turnsWith_1 rfl ?_
  refine z_callVv F (c_X0_begin J hk hn hf hn1) zm_X0_begin zv_X0_begin ml_X0_54 (by with_reducible assumption) (by decide) rfl rfl rfl (Nat.le_of_ble_eq_true rfl) dX0_turnsWith_2 (by decide) (fun M_2 h_2 => ?_)
  replace h_2 := Eq.symm h_2
  subst h_2
  refine z_aload_n F dX0_turnsWith_5 rfl ?_
  refine zg_X0_other F (by with_reducible assumption) fl_X0_25 dX0_turnsWith_6 (fun hk_6 => ?_)
  refine z_callVv F (c_X5_setOut J (by with_reducible assumption)) zm_X5_setOut zv_X5_setOut ml_X0_86 (by with_reducible assumption) (by decide) rfl rfl rfl (Nat.le_of_ble_eq_true rfl) dX0_turnsWith_9 (by decide) (fun M_9 h_9 => ?_)
  replace h_9 := Eq.symm h_9
  subst h_9
  refine z_aload_n F dX0_turnsWith_12 rfl ?_
  refine zg_X0_other F (by with_reducible assumption) fl_X0_25 dX0_turnsWith_13 (fun hk_13 => ?_)
  refine z_iload_n F dX0_turnsWith_16 rfl ?_
  refine zp_X5_his F (by with_reducible assumption) fl_X0_89 dX0_turnsWith_17 ?_
  refine z_iconst (v := 0) F dX0_turnsWith_20 (by decide) ?_
  refine z_istore_n (lv' := [_, _, _, _, _, _, _]) F dX0_turnsWith_21 (by decide) rfl rfl ?_
  refine z_iconst (v := 1) F dX0_turnsWith_22 (by decide) ?_
  refine z_istore (lv' := [_, _, _, _, _, _, _]) F dX0_turnsWith_23 (by decide) rfl rfl ?_
  have hb : ∀ b, b < f + 1 ∨ f + 17 ≤ b → (zbeg M f n).1 b = M.1 b := fun b q => zbeg_off M q
  simp only [zs_za, za_za, za_at, hb (f + 17) (by omega)]
  rw [← hU]
  exact key 200 1 (M.1 (n + 15), U0, 0) none none _ (by omega) rfl rfl (((zfr.rf M).beg hf).a (by omega)) (by rw [za_off _ (by omega), zbeg_th]) (by rw [za_off _ (by omega), zbeg_rb]) (by rw [za_off _ (by omega), zbeg_T]) (by rw [za_at]) hh (by rw [hU]; exact hx) hr
