theorem c_X4_set {l : Launch} {w : zE} (J : zJ w) {M : zM} {i : Nat} {a b c d : Int32} (hk : zk i = 4) : zCv l w yX4_set cX4_set 5 0 [.ref (w.2.2 i), .int a, .int b, .int c, .int d] M (fun M2 => M2 = za M (zb i) (setF (M.1 (zb i)) (zo i) a b c d)) := by
  refine zCv_of J zm_X4_set [some (.ref (w.2.2 i)), some (.int a), some (.int b), some (.int c), some (.int d)] (Nat.le_of_ble_eq_true rfl) rfl (fun g hg F X => ?_)
  subst hg
  refine z_aload_n F dX4_set_0 rfl ?_
  refine z_iload_n F dX4_set_1 rfl ?_
  refine zp_X4_kind F (by with_reducible assumption) fl_X4_9 dX4_set_2 ?_
  refine z_aload_n F dX4_set_5 rfl ?_
  refine z_iload_n F dX4_set_6 rfl ?_
  refine zp_X4_worth F (by with_reducible assumption) fl_X4_15 dX4_set_7 ?_
  refine z_aload_n F dX4_set_10 rfl ?_
  refine z_iload_n F dX4_set_11 rfl ?_
  refine zp_X4_load F (by with_reducible assumption) fl_X4_18 dX4_set_12 ?_
  refine z_aload_n F dX4_set_15 rfl ?_
  refine z_iload F dX4_set_16 rfl ?_
  refine zp_X4_care F (by with_reducible assumption) fl_X4_21 dX4_set_18 ?_
  refine z_vret F X dX4_set_21 ?_
  unfold zs za setF
  simp only [va_up_self, bx_uu]
theorem c_X4_feltBy {l : Launch} {w : zE} (J : zJ w) {M : zM} {i : Nat} {mind n : Int32} (hk : zk i = 4) : zCi l w yX4_feltBy cX4_feltBy 3 (some .int) 0 [.ref (w.2.2 i), .int mind, .int n] M (fun r M2 => M2 = M ∧ r = feltF (M.1 (zb i)) (zo i) mind n) := by
  refine zCi_of J zm_X4_feltBy [some (.ref (w.2.2 i)), some (.int mind), some (.int n)] (Nat.le_of_ble_eq_true rfl) rfl (fun g hg F X => ?_)
  subst hg
  refine z_iload_n F dX4_feltBy_0 rfl ?_
  refine z_if_ne (tgt := 28) F dX4_feltBy_1 (by decide) (fun h_1 => ?_) (fun h_1 => ?_)
  · refine z_aload_n F dX4_feltBy_28 rfl ?_
    refine zg_X4_kind F (by with_reducible assumption) fl_X4_9 dX4_feltBy_29 ?_
    refine z_iconst (v := 1) F dX4_feltBy_32 (by decide) ?_
    refine z_ic_eq (tgt := 49) F dX4_feltBy_33 (by decide) (fun h_33 => ?_) (fun h_33 => ?_)
    · refine z_aload_n F dX4_feltBy_49 rfl ?_
      refine zg_X4_kind F (by with_reducible assumption) fl_X4_9 dX4_feltBy_50 ?_
      refine z_iconst (v := 3) F dX4_feltBy_53 (by decide) ?_
      refine z_ic_ne (tgt := 73) F dX4_feltBy_54 (by decide) (fun h_54 => ?_) (fun h_54 => ?_)
      · refine z_aload_n F dX4_feltBy_73 rfl ?_
        refine zg_X4_care F (by with_reducible assumption) fl_X4_21 dX4_feltBy_74 ?_
        refine z_iload_n F dX4_feltBy_77 rfl ?_
        refine z_iadd F dX4_feltBy_78 ?_
        refine z_iret F X dX4_feltBy_79 ?_
        exact ⟨rfl, by simp_all [feltF]⟩
      · refine z_iload_n F dX4_feltBy_57 rfl ?_
        refine z_iconst (v := 3) F dX4_feltBy_58 (by decide) ?_
        refine z_ic_lt (tgt := 73) F dX4_feltBy_59 (by decide) (fun h_59 => ?_) (fun h_59 => ?_)
        · refine z_aload_n F dX4_feltBy_73 rfl ?_
          refine zg_X4_care F (by with_reducible assumption) fl_X4_21 dX4_feltBy_74 ?_
          refine z_iload_n F dX4_feltBy_77 rfl ?_
          refine z_iadd F dX4_feltBy_78 ?_
          refine z_iret F X dX4_feltBy_79 ?_
          exact ⟨rfl, by simp_all [feltF]⟩
        · refine z_aload_n F dX4_feltBy_62 rfl ?_
          refine zg_X4_care F (by with_reducible assumption) fl_X4_21 dX4_feltBy_63 ?_
          refine z_iload_n F dX4_feltBy_66 rfl ?_
          refine z_iadd F dX4_feltBy_67 ?_
          refine z_iconst (v := 5) F dX4_feltBy_68 (by decide) ?_
          refine z_iadd F dX4_feltBy_69 ?_
          refine z_goto (tgt := 79) F dX4_feltBy_70 (by decide) ?_
          refine z_iret F X dX4_feltBy_79 ?_
          exact ⟨rfl, by simp_all [feltF]⟩
    · refine z_aload_n F dX4_feltBy_36 rfl ?_
      refine zg_X4_kind F (by with_reducible assumption) fl_X4_9 dX4_feltBy_37 ?_
      refine z_iconst (v := 3) F dX4_feltBy_40 (by decide) ?_
      refine z_ic_eq (tgt := 49) F dX4_feltBy_41 (by decide) (fun h_41 => ?_) (fun h_41 => ?_)
      · refine z_aload_n F dX4_feltBy_49 rfl ?_
        refine zg_X4_kind F (by with_reducible assumption) fl_X4_9 dX4_feltBy_50 ?_
        refine z_iconst (v := 3) F dX4_feltBy_53 (by decide) ?_
        refine z_ic_ne (tgt := 73) F dX4_feltBy_54 (by decide) (fun h_54 => ?_) (fun h_54 => ?_)
        · refine z_aload_n F dX4_feltBy_73 rfl ?_
          refine zg_X4_care F (by with_reducible assumption) fl_X4_21 dX4_feltBy_74 ?_
          refine z_iload_n F dX4_feltBy_77 rfl ?_
          refine z_iadd F dX4_feltBy_78 ?_
          refine z_iret F X dX4_feltBy_79 ?_
          exact ⟨rfl, by simp_all [feltF]⟩
        · refine z_iload_n F dX4_feltBy_57 rfl ?_
          refine z_iconst (v := 3) F dX4_feltBy_58 (by decide) ?_
          refine z_ic_lt (tgt := 73) F dX4_feltBy_59 (by decide) (fun h_59 => ?_) (fun h_59 => ?_)
          · refine z_aload_n F dX4_feltBy_73 rfl ?_
            refine zg_X4_care F (by with_reducible assumption) fl_X4_21 dX4_feltBy_74 ?_
            refine z_iload_n F dX4_feltBy_77 rfl ?_
            refine z_iadd F dX4_feltBy_78 ?_
            refine z_iret F X dX4_feltBy_79 ?_
            exact ⟨rfl, by simp_all [feltF]⟩
          · refine z_aload_n F dX4_feltBy_62 rfl ?_
            refine zg_X4_care F (by with_reducible assumption) fl_X4_21 dX4_feltBy_63 ?_
            refine z_iload_n F dX4_feltBy_66 rfl ?_
            refine z_iadd F dX4_feltBy_67 ?_
            refine z_iconst (v := 5) F dX4_feltBy_68 (by decide) ?_
            refine z_iadd F dX4_feltBy_69 ?_
            refine z_goto (tgt := 79) F dX4_feltBy_70 (by decide) ?_
            refine z_iret F X dX4_feltBy_79 ?_
            exact ⟨rfl, by simp_all [feltF]⟩
      · refine z_aload_n F dX4_feltBy_44 rfl ?_
        refine zg_X4_care F (by with_reducible assumption) fl_X4_21 dX4_feltBy_45 ?_
        refine z_iret F X dX4_feltBy_48 ?_
        exact ⟨rfl, by simp_all [feltF]⟩
  · refine z_aload_n F dX4_feltBy_4 rfl ?_
    refine zg_X4_kind F (by with_reducible assumption) fl_X4_9 dX4_feltBy_5 ?_
    refine z_iconst (v := 2) F dX4_feltBy_8 (by decide) ?_
    refine z_ic_ne (tgt := 23) F dX4_feltBy_9 (by decide) (fun h_9 => ?_) (fun h_9 => ?_)
    · refine z_aload_n F dX4_feltBy_23 rfl ?_
      refine zg_X4_load F (by with_reducible assumption) fl_X4_18 dX4_feltBy_24 ?_
      refine z_iret F X dX4_feltBy_27 ?_
      exact ⟨rfl, by simp_all [feltF]⟩
    · refine z_aload_n F dX4_feltBy_12 rfl ?_
      refine zg_X4_load F (by with_reducible assumption) fl_X4_18 dX4_feltBy_13 ?_
      refine z_iconst (v := 2) F dX4_feltBy_16 (by decide) ?_
      refine z_iload_n F dX4_feltBy_17 rfl ?_
      refine z_imul F dX4_feltBy_18 ?_
      refine z_iadd F dX4_feltBy_19 ?_
      refine z_goto (tgt := 27) F dX4_feltBy_20 (by decide) ?_
      refine z_iret F X dX4_feltBy_27 ?_
      exact ⟨rfl, by simp_all [feltF]⟩
theorem c_X5_hasNew {l : Launch} {w : zE} (J : zJ w) {M : zM} {t : Nat} {x : Int32} (hk : zk t = 5) : zCv l w yX5_hasNew cX5_hasNew 2 0 [.ref (w.2.2 t), .int x] M (fun M2 => M2 = zs (zs M t 0 x) t 1 0) := by
  refine zCv_of J zm_X5_hasNew [some (.ref (w.2.2 t)), some (.int x)] (Nat.le_of_ble_eq_true rfl) rfl (fun g hg F X => ?_)
  subst hg
  refine z_aload_n F dX5_hasNew_0 rfl ?_
  refine z_iload_n F dX5_hasNew_1 rfl ?_
  refine zp_X5_his F (by with_reducible assumption) fl_X5_9 dX5_hasNew_2 ?_
  refine z_aload_n F dX5_hasNew_5 rfl ?_
  refine z_iconst (v := 0) F dX5_hasNew_6 (by decide) ?_
  refine zp_X5_n F (by with_reducible assumption) fl_X5_22 dX5_hasNew_7 ?_
  refine z_vret F X dX5_hasNew_10 ?_
  rfl
theorem c_X5_setOut {l : Launch} {w : zE} (J : zJ w) {M : zM} {t : Nat} (hk : zk t = 5) : zCv l w yX5_setOut cX5_setOut 1 1 [.ref (w.2.2 t)] M (fun M2 => M2 = zs (zs (zs (zs M t 0 (-4)) t 1 0) t 2 0) t 3 0) := by
  refine zCv_of J zm_X5_setOut [some (.ref (w.2.2 t))] (Nat.le_of_ble_eq_true rfl) rfl (fun g hg F X => ?_)
  subst hg
  refine z_aload_n F dX5_setOut_0 rfl ?_
  refine z_bipush (v := (-4)) F dX5_setOut_1 (by decide) ?_
  refine z_callVv F (c_X5_hasNew J (by with_reducible assumption)) zm_X5_hasNew zv_X5_hasNew ml_X5_40 (by with_reducible assumption) (by decide) rfl rfl rfl (Nat.le_of_ble_eq_true rfl) dX5_setOut_3 (by decide) (fun M_3 h_3 => ?_)
  replace h_3 := Eq.symm h_3
  subst h_3
  refine z_aload_n F dX5_setOut_6 rfl ?_
  refine z_iconst (v := 0) F dX5_setOut_7 (by decide) ?_
  refine zp_X5_mind F (by with_reducible assumption) fl_X5_25 dX5_setOut_8 ?_
  refine z_aload_n F dX5_setOut_11 rfl ?_
  refine z_iconst (v := 0) F dX5_setOut_12 (by decide) ?_
  refine zp_X5_ahead F (by with_reducible assumption) fl_X5_28 dX5_setOut_13 ?_
  refine z_vret F X dX5_setOut_16 ?_
  rfl
theorem c_X1_isThing {l : Launch} {w : zE} (J : zJ w) {M : zM} {r : Nat} {x : Int32} (hk : zk r = 1) : zCi l w yX1_isThing cX1_isThing 2 (some .boolean) 0 [.ref (w.2.2 r), .int x] M (fun v M2 => M2 = M ∧ v = bI (0 ≤ x ∧ x < M.1 r 0)) := by
  refine zCi_of J zm_X1_isThing [some (.ref (w.2.2 r)), some (.int x)] (Nat.le_of_ble_eq_true rfl) rfl (fun g hg F X => ?_)
  subst hg
  refine z_iload_n F dX1_isThing_0 rfl ?_
  refine z_if_lt (tgt := 16) F dX1_isThing_1 (by decide) (fun h_1 => ?_) (fun h_1 => ?_)
  · refine z_iconst (v := 0) F dX1_isThing_16 (by decide) ?_
    refine z_zret F X dX1_isThing_17 (by decide) ?_
    exact ⟨rfl, by unfold bI; grind⟩
  · refine z_iload_n F dX1_isThing_4 rfl ?_
    refine z_aload_n F dX1_isThing_5 rfl ?_
    refine zg_X1_thingCount F (by with_reducible assumption) fl_X1_48 dX1_isThing_6 ?_
    refine z_ic_ge (tgt := 16) F dX1_isThing_9 (by decide) (fun h_9 => ?_) (fun h_9 => ?_)
    · refine z_iconst (v := 0) F dX1_isThing_16 (by decide) ?_
      refine z_zret F X dX1_isThing_17 (by decide) ?_
      exact ⟨rfl, by unfold bI; grind⟩
    · refine z_iconst (v := 1) F dX1_isThing_12 (by decide) ?_
      refine z_goto (tgt := 17) F dX1_isThing_13 (by decide) ?_
      refine z_zret F X dX1_isThing_17 (by decide) ?_
      exact ⟨rfl, by unfold bI; grind⟩
theorem c_X1_isPerson {l : Launch} {w : zE} (J : zJ w) {M : zM} {r : Nat} {x : Int32} (hk : zk r = 1) : zCi l w yX1_isPerson cX1_isPerson 2 (some .boolean) 0 [.ref (w.2.2 r), .int x] M (fun v M2 => M2 = M ∧ v = bI (0 ≤ x ∧ x < M.1 r 1)) := by
  refine zCi_of J zm_X1_isPerson [some (.ref (w.2.2 r)), some (.int x)] (Nat.le_of_ble_eq_true rfl) rfl (fun g hg F X => ?_)
  subst hg
  refine z_iload_n F dX1_isPerson_0 rfl ?_
  refine z_if_lt (tgt := 16) F dX1_isPerson_1 (by decide) (fun h_1 => ?_) (fun h_1 => ?_)
  · refine z_iconst (v := 0) F dX1_isPerson_16 (by decide) ?_
    refine z_zret F X dX1_isPerson_17 (by decide) ?_
    exact ⟨rfl, by unfold bI; grind⟩
  · refine z_iload_n F dX1_isPerson_4 rfl ?_
    refine z_aload_n F dX1_isPerson_5 rfl ?_
    refine zg_X1_personCount F (by with_reducible assumption) fl_X1_57 dX1_isPerson_6 ?_
    refine z_ic_ge (tgt := 16) F dX1_isPerson_9 (by decide) (fun h_9 => ?_) (fun h_9 => ?_)
    · refine z_iconst (v := 0) F dX1_isPerson_16 (by decide) ?_
      refine z_zret F X dX1_isPerson_17 (by decide) ?_
      exact ⟨rfl, by unfold bI; grind⟩
    · refine z_iconst (v := 1) F dX1_isPerson_12 (by decide) ?_
      refine z_goto (tgt := 17) F dX1_isPerson_13 (by decide) ?_
      refine z_zret F X dX1_isPerson_17 (by decide) ?_
      exact ⟨rfl, by unfold bI; grind⟩
theorem tst1 {x y a : Int32} (h : x < 0) : ¬ (0 ≤ x ∧ x < y) := by grind
theorem tst2 {x y a : Int32} (h : ¬ 0 ≤ x) (h2 : 5 ≤ x + 3) (h3 : x < 99) (h4 : 0 < x): x + 3 < 103 := by grind
theorem tst3 {x y a : Int32} (h : 0 ≤ x) (h2 : x ≤ 99) (h3 : 0 ≤ y) (h4 : y ≤ 20) (h5 : x + y ≤ a): x ≤ a := by grind
