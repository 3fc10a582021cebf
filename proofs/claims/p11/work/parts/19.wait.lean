def waitS (Q : Nat → Int32) (x : Int32) : Nat → Nat → Int32
  | 0, _ => -1
  | j + 1, m => if Q m = x then nI m else waitS Q x j (m + 1)
/-- with which thing to wait, and where -/
def waitL (wo : Int32 → Int32) (V S : Nat → Int32) : Nat → Nat → Int32 × Int32 → Int32 × Int32
  | 0, _, s => s
  | j + 1, k, s => waitL wo V S j (k + 1) (if (s.1 = -4 ∨ wo (nI k) < wo s.1) ∧ V k = -4 then (if S k < 0 then s else (nI k, S k)) else s)
def waitQ (rb th pe : zF1) (np a : Nat) (T : zF1) (k m : Nat) : Int32 := (homeF (va_up rb 1 (nI (np + 1))) th (va_up (va_up pe (2 * np) (nI m)) (2 * np + 1) 0) (np + 1) (12 - a) (va_up T (5 + np) (nI k), -4)).1 (5 + np)
theorem c_X0_waitFor {l : Launch} {w : zE} (J : zJ w) {M : zM} {f n np a nt : Nat} {x : Int32} (hk : zk f = 0) (hn : zk n = 6) (hf : f = 87) (hn1 : n = 1) (ok : nowOK M n np a) (hnt : M.1 (n + 1) 0 = nI nt) (hnt10 : nt ≤ 10) : zCi l w yX0_waitFor cX0_waitFor 8 (some .int) 5 [.ref (w.2.2 f), .int x, .ref (w.2.2 n)] M (fun r M2 => zfr M M2 ∧ r = (waitL (worthO (M.1 (n + 1 + 1)) (M.1 (n + 1) 0)) (fun k => whoF (M.1 (n + 15)) np (nI k)) (fun k => waitS (waitQ (M.1 (n + 1)) (M.1 (n + 1 + 1)) (M.1 (n + 1 + 12)) np a (M.1 (n + 15)) k) x (12 - a) a) nt 0 (-4, M.1 f 4)).1 ∧ M2.1 f 4 = (waitL (worthO (M.1 (n + 1 + 1)) (M.1 (n + 1) 0)) (fun k => whoF (M.1 (n + 15)) np (nI k)) (fun k => waitS (waitQ (M.1 (n + 1)) (M.1 (n + 1 + 1)) (M.1 (n + 1 + 12)) np a (M.1 (n + 15)) k) x (12 - a) a) nt 0 (-4, M.1 f 4)).2) := by
  obtain ⟨k1, k15, k17, k19⟩ := zkf0 f (zk_i hk (by decide)) hk
  obtain ⟨r1, r12, r13⟩ := zkf1 (f + 1) (zk_i k1 (by decide)) k1
  obtain ⟨o1, o2, o3, o4, o5⟩ := id ok
  have hpin : vp_in (nI np) 9 := vp_in_nI (by omega) (by decide)
  have hpc : (nI np).toNatClampNeg = np := nI_clamp (by omega)
  refine zCi_of J zm_X0_waitFor [some (.ref (w.2.2 f)), some (.int x), some (.ref (w.2.2 n)), none, none, none, none, none] (Nat.le_of_ble_eq_true rfl) rfl (fun g hg F X => ?_)
  subst hg
  generalize hwo : worthO (M.1 (n + 1 + 1)) (M.1 (n + 1) 0) = wo at X
  generalize hV : (fun k => whoF (M.1 (n + 15)) np (nI k)) = V at X
  generalize hS : (fun k => waitS (waitQ (M.1 (n + 1)) (M.1 (n + 1 + 1)) (M.1 (n + 1 + 12)) np a (M.1 (n + 15)) k) x (12 - a) a) = S at X
  generalize hr : waitL wo V S nt 0 (-4, M.1 f 4) = r at X
  have key : ∀ (j k : Nat) (s : Int32 × Int32) (x5 x6 x7 : Option Value) (M' : zM), k + j = nt → zok [none, none, none, none, none, x5, x6, x7] 6 = true → zok [none, none, none, none, none, x5, x6, x7] 5 = true → zok [none, none, none, none, none, x5, x6, x7] 7 = true → zfr M M' → M'.1 f 4 = s.2 → waitL wo V S j k s = r → ZW w g 8 6 [some (.ref (w.2.2 f)), some (.int x), some (.ref (w.2.2 n)), some (.int s.1), some (.int (nI k)), x5, x6, x7] [] M' := by
    intro j
    induction j with
    | zero =>
      intro k s x5 x6 x7 M' hkj hok1 hok2 hok3 hfr hm hs
      obtain ⟨e1, e2, e3, e4⟩ := zfr_5 hfr hn1
      have hs : s = r := hs
      subst hs
      refine z_iload F dX0_waitFor_6 rfl ?_
      refine z_aload_n F dX0_waitFor_8 rfl ?_
      refine zg_X6_road F (by with_reducible assumption) fl_X0_32 dX0_waitFor_9 (fun hk_9 => ?_)
      refine zg_X1_thingCount F (by with_reducible assumption) fl_X0_61 dX0_waitFor_12 ?_
      try simp only [e1]
      refine z_ic_ge (tgt := 163) F dX0_waitFor_15 (by decide) (fun h_15 => ?_) (fun h_15 => absurd h_15 (Int32.not_lt.mpr (by rw [hnt]; exact nI_le (by omega) (by omega))))
      refine z_iload_n F dX0_waitFor_163 rfl ?_
      refine z_iret F X dX0_waitFor_164 ?_
      exact ⟨hfr, rfl, hm⟩
    | succ j ih =>
      intro k s x5 x6 x7 M' hkj hok1 hok2 hok3 hfr hm hs
      obtain ⟨e1, e2, e3, e4⟩ := zfr_5 hfr hn1
      rw [waitL] at hs
      have hVk : V k = whoF (M.1 (n + 15)) np (nI k) := by rw [← hV]
      have hSk : S k = waitS (waitQ (M.1 (n + 1)) (M.1 (n + 1 + 1)) (M.1 (n + 1 + 12)) np a (M.1 (n + 15)) k) x (12 - a) a := by rw [← hS]
      generalize hQ : waitQ (M.1 (n + 1)) (M.1 (n + 1 + 1)) (M.1 (n + 1 + 12)) np a (M.1 (n + 15)) k = Q at hSk
      have inner : (s.1 = -4 ∨ wo (nI k) < wo s.1) ∧ V k = -4 → ∀ (i m : Nat) (y7 : Option Value) (M1 : zM), m + i = 12 → zok [none, none, none, none, none, none, some (.int 0), y7] 7 = true → zfr M M1 → M1.1 f 4 = s.2 → waitS Q x i m = S k → ZW w g 8 86 [some (.ref (w.2.2 f)), some (.int x), some (.ref (w.2.2 n)), some (.int s.1), some (.int (nI k)), some (.int 1), some (.int (nI m)), y7] [] M1 := by
        intro hc
        rw [if_pos hc] at hs
        intro i
        induction i with
        | zero =>
          intro m y7 M1 hmi hok hfr1 hm1 hw
          have hmn : m = 12 := by omega
          subst hmn
          have hneg : S k < 0 := by rw [← hw]; exact (by decide : (-1 : Int32) < 0)
          rw [if_pos hneg] at hs
          refine z_iload F dX0_waitFor_86 rfl ?_
          refine z_bipush (v := 12) F dX0_waitFor_88 (by decide) ?_
          refine z_ic_ge (tgt := 157) F dX0_waitFor_90 (by decide) (fun h_90 => ?_) (fun h_90 => absurd h_90 (by decide))
          refine z_iincc (c := 1) (lv' := [_, _, _, _, _, _, _, _]) F dX0_waitFor_157 rfl (by decide) (by decide) rfl rfl ?_
          refine z_goto (tgt := 6) F dX0_waitFor_160 (by decide) ?_
          rw [nI_1]
          exact ih (k + 1) s _ _ _ _ (by omega) rfl rfl rfl hfr1 hm1 hs
        | succ i ihm =>
          intro m y7 M1 hmi hok hfr1 hm1 hw
          obtain ⟨e1, e2, e3, e4⟩ := zfr_5 hfr1 hn1
          have hQm : Q m = (homeF (va_up (M.1 (n + 1)) 1 (nI (np + 1))) (M.1 (n + 1 + 1)) (va_up (va_up (M.1 (n + 1 + 12)) (2 * np) (nI m)) (2 * np + 1) 0) (np + 1) (12 - a) (va_up (M.1 (n + 15)) (5 + np) (nI k), -4)).1 (5 + np) := by rw [← hQ]; rfl
          rw [waitS] at hw
          generalize hM2 : zs (zs (zs (zs (zbeg M1 f n) (f + 1 + 12) (2 * np) (nI m)) (f + 1 + 12) (2 * np + 1) 0) (f + 15) (5 + np) (nI k)) (f + 1) 1 (nI (np + 1)) = M2
          have q0 : M2.1 f 4 = s.2 := by rw [← hM2, zs_off _ (by omega), zs_off _ (by omega), zs_off _ (by omega), zs_off _ (by omega), zbeg_off _ (by omega), hm1]
          have q1 : M2.1 (f + 1) = va_up (M.1 (n + 1)) 1 (nI (np + 1)) := by rw [← hM2, zs_at, zs_off _ (by omega), zs_off _ (by omega), zs_off _ (by omega), zbeg_rb, e1]
          have q2 : M2.1 (f + 1 + 1) = M.1 (n + 1 + 1) := by rw [← hM2, zs_off _ (by omega), zs_off _ (by omega), zs_off _ (by omega), zs_off _ (by omega), zbeg_th, e2]
          have q3 : M2.1 (f + 1 + 12) = va_up (va_up (M.1 (n + 1 + 12)) (2 * np) (nI m)) (2 * np + 1) 0 := by rw [← hM2, zs_off _ (by omega), zs_off _ (by omega), zs_at, zs_at, zbeg_pe, e3]
          have q4 : M2.1 (f + 15) = va_up (M.1 (n + 15)) (5 + np) (nI k) := by rw [← hM2, zs_off _ (by omega), zs_at, zs_off _ (by omega), zs_off _ (by omega), zbeg_T, e4]
          have q5 : M2.1 (f + 15 + 1) 0 = -4 := by rw [← hM2, zs_off _ (by omega), zs_off _ (by omega), zs_off _ (by omega), zs_off _ (by omega), zbeg_r]
          have q6 : zfr M M2 := by rw [← hM2]; exact ((((hfr1.beg hf).s (by omega)).s (by omega)).s (by omega)).s (by omega)
          have g0 : ∀ T rf, (zt M2 (f + 15) T rf).1 f 4 = s.2 := fun T rf => by rw [zt_off (by omega) (by omega), q0]
          refine z_iload F dX0_waitFor_86 rfl ?_
          refine z_bipush (v := 12) F dX0_waitFor_88 (by decide) ?_
          refine z_ic_ge (tgt := 157) F dX0_waitFor_90 (by decide) (fun h_90 => absurd h_90 (Int32.not_le.mpr (nI_lt (b := 12) (by omega) (by decide)))) (fun h_90 => ?_)
          refine z_aload_n F dX0_waitFor_93 rfl ?_
          refine z_aload_n F dX0_waitFor_94 rfl ?_
          refine z_callVv F (c_X0_begin J hk hn hf hn1) zm_X0_begin zv_X0_begin ml_X0_54 (by with_reducible assumption) (by decide) rfl rfl rfl (Nat.le_of_ble_eq_true rfl) dX0_waitFor_95 (by decide) (fun M_95 h_95 => ?_)
          replace h_95 := Eq.symm h_95
          subst h_95
          refine z_aload_n F dX0_waitFor_98 rfl ?_
          refine zg_X0_road F (by with_reducible assumption) fl_X0_12 dX0_waitFor_99 (fun hk_99 => ?_)
          refine z_iload F dX0_waitFor_102 rfl ?_
          refine z_iconst (v := 0) F dX0_waitFor_104 (by decide) ?_
          refine z_iload F dX0_waitFor_105 rfl ?_
          refine z_aload_n F dX0_waitFor_107 rfl ?_
          refine zg_X0_trip F (by with_reducible assumption) fl_X0_21 dX0_waitFor_108 (fun hk_108 => ?_)
          refine z_callVi F (c_X1_addPerson J (by with_reducible assumption) (by with_reducible assumption) (n := np) (by rw [zbeg_rb, e1]; exact o2) (by omega)) zm_X1_addPerson zv_X1_addPerson ml_X0_72 (by with_reducible assumption) (by decide) rfl rfl rfl (Nat.le_of_ble_eq_true rfl) dX0_waitFor_111 (by decide) (fun r_111 M_111 h_111 => ?_)
          obtain ⟨e_111, rfl⟩ := h_111
          replace e_111 := Eq.symm e_111
          subst e_111
          rw [hM2]
          refine z_istore (lv' := [_, _, _, _, _, _, _, _]) F dX0_waitFor_114 (by decide) rfl rfl ?_
          refine z_aload_n F dX0_waitFor_116 rfl ?_
          refine z_callVv F (c_X0_walkHome J hk (by rw [q1, va_up_ne _ _ (by decide)]; exact o1) (np := np + 1) (by rw [q1, va_up_self]) (by omega) (a := a) (by rw [q4, va_up_ne _ _ (by omega)]; exact o4) o5) zm_X0_walkHome zv_X0_walkHome ml_X0_58 (by with_reducible assumption) (by decide) rfl rfl rfl (Nat.le_of_ble_eq_true rfl) dX0_waitFor_117 (by decide) (fun M_117 h_117 => ?_)
          replace h_117 := Eq.symm h_117
          subst h_117
          refine z_iload F dX0_waitFor_120 rfl ?_
          refine z_if_lt (tgt := 151) F dX0_waitFor_122 (by decide) (fun h_122 => absurd h_122 (nI_pos (by omega))) (fun h_122 => ?_)
          refine z_aload_n F dX0_waitFor_125 rfl ?_
          refine zg_X0_trip F (by with_reducible assumption) fl_X0_21 dX0_waitFor_126 (fun hk_126 => ?_)
          refine zg_X5_theirs F (by with_reducible assumption) fl_X0_76 dX0_waitFor_129 (fun hk_129 => ?_)
          refine z_iload F dX0_waitFor_132 rfl ?_
          refine z_iald11 F (by with_reducible assumption) hpin dX0_waitFor_134 ?_
          try simp only [hpc, zt_t, q1, q2, q3, q4, q5, ← hQm]
          refine z_iload_n F dX0_waitFor_135 rfl ?_
          refine z_ic_ne (tgt := 151) F dX0_waitFor_136 (by decide) (fun h_136 => ?_) (fun h_136 => ?_)
          · try simp only [hpc, zt_t, q1, q2, q3, q4, q5, ← hQm] at h_136
            refine z_iincc (c := 1) (lv' := [_, _, _, _, _, _, _, _]) F dX0_waitFor_151 rfl (by decide) (by decide) rfl rfl ?_
            refine z_goto (tgt := 86) F dX0_waitFor_154 (by decide) ?_
            rw [if_neg h_136] at hw
            rw [nI_1]
            exact ihm (m + 1) _ _ (by omega) rfl (q6.t (by omega)) (g0 _ _) hw
          · try simp only [hpc, zt_t, q1, q2, q3, q4, q5, ← hQm] at h_136
            refine z_iload F dX0_waitFor_139 rfl ?_
            refine z_istore_n (lv' := [_, _, _, _, _, _, _, _]) F dX0_waitFor_141 (by decide) rfl rfl ?_
            refine z_aload_n F dX0_waitFor_142 rfl ?_
            refine z_iload F dX0_waitFor_143 rfl ?_
            refine zp_X0_milestone F (by with_reducible assumption) fl_X0_80 dX0_waitFor_145 ?_
            refine z_goto (tgt := 157) F dX0_waitFor_148 (by decide) ?_
            refine z_iincc (c := 1) (lv' := [_, _, _, _, _, _, _, _]) F dX0_waitFor_157 rfl (by decide) (by decide) rfl rfl ?_
            refine z_goto (tgt := 6) F dX0_waitFor_160 (by decide) ?_
            rw [if_pos h_136] at hw
            rw [nI_1]
            have hnn : ¬ S k < 0 := by rw [← hw]; exact nI_pos (by omega)
            rw [if_neg hnn, ← hw] at hs
            exact ih (k + 1) (nI k, nI m) _ _ _ _ (by omega) rfl rfl rfl ((q6.t (by omega)).s (by omega)) (by rw [zs_at, va_up_self]) hs
      refine z_iload F dX0_waitFor_6 rfl ?_
      refine z_aload_n F dX0_waitFor_8 rfl ?_
      refine zg_X6_road F (by with_reducible assumption) fl_X0_32 dX0_waitFor_9 (fun hk_9 => ?_)
      refine zg_X1_thingCount F (by with_reducible assumption) fl_X0_61 dX0_waitFor_12 ?_
      try simp only [e1, e4, hwo, ← hVk]
      refine z_ic_ge (tgt := 163) F dX0_waitFor_15 (by decide) (fun h_15 => absurd h_15 (Int32.not_le.mpr (by rw [hnt]; exact nI_lt (by omega) (by omega)))) (fun h_15 => ?_)
      refine z_iload_n F dX0_waitFor_18 rfl ?_
      refine z_bipush (v := (-4)) F dX0_waitFor_19 (by decide) ?_
      refine z_ic_eq (tgt := 44) F dX0_waitFor_21 (by decide) (fun h_21 => ?_) (fun h_21 => ?_)
      · try simp only [e1, e4, hwo, ← hVk] at h_21
        refine z_iconst (v := 1) F dX0_waitFor_44 (by decide) ?_
        refine z_goto (tgt := 49) F dX0_waitFor_45 (by decide) ?_
        refine z_istore (lv' := [_, _, _, _, _, _, _, _]) F dX0_waitFor_49 (by decide) rfl rfl ?_
        refine z_iload F dX0_waitFor_51 rfl ?_
        refine z_if_eq (tgt := 157) F dX0_waitFor_53 (by decide) (fun h_53 => absurd h_53 (by decide)) (fun h_53 => ?_)
        refine z_aload_n F dX0_waitFor_56 rfl ?_
        refine zg_X6_road F (by with_reducible assumption) fl_X0_32 dX0_waitFor_57 (fun hk_57 => ?_)
        refine z_iload F dX0_waitFor_60 rfl ?_
        refine z_aload_n F dX0_waitFor_62 rfl ?_
        refine zg_X6_trip F (by with_reducible assumption) fl_X0_39 dX0_waitFor_63 (fun hk_63 => ?_)
        refine z_callVi F (c_X1_whoHas J (by with_reducible assumption) (by with_reducible assumption) (np := np) (by rw [e1]; exact o2) (by omega)) zm_X1_whoHas zv_X1_whoHas ml_X0_68 (by with_reducible assumption) (by decide) rfl rfl rfl (Nat.le_of_ble_eq_true rfl) dX0_waitFor_66 (by decide) (fun r_66 M_66 h_66 => ?_)
        obtain ⟨e_66, rfl⟩ := h_66
        replace e_66 := Eq.symm e_66
        subst e_66
        refine z_bipush (v := (-4)) F dX0_waitFor_69 (by decide) ?_
        refine z_ic_eq (tgt := 77) F dX0_waitFor_71 (by decide) (fun h_71 => ?_) (fun h_71 => ?_)
        · try simp only [e1, e4, hwo, ← hVk] at h_71
          refine z_aload_n F dX0_waitFor_77 rfl ?_
          refine zg_X6_trip F (by with_reducible assumption) fl_X0_39 dX0_waitFor_78 (fun hk_78 => ?_)
          refine zg_X5_ahead F (by with_reducible assumption) fl_X0_47 dX0_waitFor_81 ?_
          try simp only [e1, e4, hwo, ← hVk]
          refine z_istore (lv' := [_, _, _, _, _, _, _, _]) F dX0_waitFor_84 (by decide) rfl rfl ?_
          rw [o4]
          exact inner ⟨Or.inl h_21, h_71⟩ (12 - a) a _ _ (by omega) rfl hfr hm hSk.symm
        · try simp only [e1, e4, hwo, ← hVk] at h_71
          refine z_goto (tgt := 157) F dX0_waitFor_74 (by decide) ?_
          refine z_iincc (c := 1) (lv' := [_, _, _, _, _, _, _, _]) F dX0_waitFor_157 rfl (by decide) (by decide) rfl rfl ?_
          refine z_goto (tgt := 6) F dX0_waitFor_160 (by decide) ?_
          rw [nI_1]
          refine ih (k + 1) s _ _ _ _ (by omega) rfl rfl hok3 hfr hm ((congrArg (waitL wo V S j (k + 1)) (if_neg ?_)).symm.trans hs)
          rintro ⟨qa, qb⟩
          first
            | exact h_71 qb
            | (simp only [e1, e2, hwo] at h_41; exact qa.elim h_21 (nlt h_41))
      · try simp only [e1, e4, hwo, ← hVk] at h_21
        refine z_aload_n F dX0_waitFor_24 rfl ?_
        refine zg_X6_road F (by with_reducible assumption) fl_X0_32 dX0_waitFor_25 (fun hk_25 => ?_)
        refine z_iload F dX0_waitFor_28 rfl ?_
        refine z_callVi F (c_X1_worthOf J (by with_reducible assumption) (by rw [e1]; exact o1)) zm_X1_worthOf zv_X1_worthOf ml_X0_64 (by with_reducible assumption) (by decide) rfl rfl rfl (Nat.le_of_ble_eq_true rfl) dX0_waitFor_30 (by decide) (fun r_30 M_30 h_30 => ?_)
        obtain ⟨e_30, rfl⟩ := h_30
        replace e_30 := Eq.symm e_30
        subst e_30
        refine z_aload_n F dX0_waitFor_33 rfl ?_
        refine zg_X6_road F (by with_reducible assumption) fl_X0_32 dX0_waitFor_34 (fun hk_34 => ?_)
        refine z_iload_n F dX0_waitFor_37 rfl ?_
        refine z_callVi F (c_X1_worthOf J (by with_reducible assumption) (by rw [e1]; exact o1)) zm_X1_worthOf zv_X1_worthOf ml_X0_64 (by with_reducible assumption) (by decide) rfl rfl rfl (Nat.le_of_ble_eq_true rfl) dX0_waitFor_38 (by decide) (fun r_38 M_38 h_38 => ?_)
        obtain ⟨e_38, rfl⟩ := h_38
        replace e_38 := Eq.symm e_38
        subst e_38
        refine z_ic_ge (tgt := 48) F dX0_waitFor_41 (by decide) (fun h_41 => ?_) (fun h_41 => ?_)
        · try simp only [e1, e4, hwo, ← hVk] at h_41
          refine z_iconst (v := 0) F dX0_waitFor_48 (by decide) ?_
          refine z_istore (lv' := [_, _, _, _, _, _, _, _]) F dX0_waitFor_49 (by decide) rfl rfl ?_
          refine z_iload F dX0_waitFor_51 rfl ?_
          refine z_if_eq (tgt := 157) F dX0_waitFor_53 (by decide) (fun h_53 => ?_) (fun h_53 => absurd h_53 (by decide))
          refine z_iincc (c := 1) (lv' := [_, _, _, _, _, _, _, _]) F dX0_waitFor_157 rfl (by decide) (by decide) rfl rfl ?_
          refine z_goto (tgt := 6) F dX0_waitFor_160 (by decide) ?_
          rw [nI_1]
          refine ih (k + 1) s _ _ _ _ (by omega) rfl rfl hok3 hfr hm ((congrArg (waitL wo V S j (k + 1)) (if_neg ?_)).symm.trans hs)
          rintro ⟨qa, qb⟩
          first
            | exact h_71 qb
            | (simp only [e1, e2, hwo] at h_41; exact qa.elim h_21 (nlt h_41))
        · try simp only [e1, e4, hwo, ← hVk] at h_41
          refine z_iconst (v := 1) F dX0_waitFor_44 (by decide) ?_
          refine z_goto (tgt := 49) F dX0_waitFor_45 (by decide) ?_
          refine z_istore (lv' := [_, _, _, _, _, _, _, _]) F dX0_waitFor_49 (by decide) rfl rfl ?_
          refine z_iload F dX0_waitFor_51 rfl ?_
          refine z_if_eq (tgt := 157) F dX0_waitFor_53 (by decide) (fun h_53 => absurd h_53 (by decide)) (fun h_53 => ?_)
          refine z_aload_n F dX0_waitFor_56 rfl ?_
          refine zg_X6_road F (by with_reducible assumption) fl_X0_32 dX0_waitFor_57 (fun hk_57 => ?_)
          refine z_iload F dX0_waitFor_60 rfl ?_
          refine z_aload_n F dX0_waitFor_62 rfl ?_
          refine zg_X6_trip F (by with_reducible assumption) fl_X0_39 dX0_waitFor_63 (fun hk_63 => ?_)
          refine z_callVi F (c_X1_whoHas J (by with_reducible assumption) (by with_reducible assumption) (np := np) (by rw [e1]; exact o2) (by omega)) zm_X1_whoHas zv_X1_whoHas ml_X0_68 (by with_reducible assumption) (by decide) rfl rfl rfl (Nat.le_of_ble_eq_true rfl) dX0_waitFor_66 (by decide) (fun r_66 M_66 h_66 => ?_)
          obtain ⟨e_66, rfl⟩ := h_66
          replace e_66 := Eq.symm e_66
          subst e_66
          refine z_bipush (v := (-4)) F dX0_waitFor_69 (by decide) ?_
          refine z_ic_eq (tgt := 77) F dX0_waitFor_71 (by decide) (fun h_71 => ?_) (fun h_71 => ?_)
          · try simp only [e1, e4, hwo, ← hVk] at h_71
            refine z_aload_n F dX0_waitFor_77 rfl ?_
            refine zg_X6_trip F (by with_reducible assumption) fl_X0_39 dX0_waitFor_78 (fun hk_78 => ?_)
            refine zg_X5_ahead F (by with_reducible assumption) fl_X0_47 dX0_waitFor_81 ?_
            try simp only [e1, e4, hwo, ← hVk]
            refine z_istore (lv' := [_, _, _, _, _, _, _, _]) F dX0_waitFor_84 (by decide) rfl rfl ?_
            simp only [e1, e2, hwo] at h_41
            rw [o4]
            exact inner ⟨Or.inr h_41, h_71⟩ (12 - a) a _ _ (by omega) rfl hfr hm hSk.symm
          · try simp only [e1, e4, hwo, ← hVk] at h_71
            refine z_goto (tgt := 157) F dX0_waitFor_74 (by decide) ?_
            refine z_iincc (c := 1) (lv' := [_, _, _, _, _, _, _, _]) F dX0_waitFor_157 rfl (by decide) (by decide) rfl rfl ?_
            refine z_goto (tgt := 6) F dX0_waitFor_160 (by decide) ?_
            rw [nI_1]
            refine ih (k + 1) s _ _ _ _ (by omega) rfl rfl hok3 hfr hm ((congrArg (waitL wo V S j (k + 1)) (if_neg ?_)).symm.trans hs)
            rintro ⟨qa, qb⟩
            first
              | exact h_71 qb
              | (simp only [e1, e2, hwo] at h_41; exact qa.elim h_21 (nlt h_41))
  refine z_bipush (v := (-4)) F dX0_waitFor_0 (by decide) ?_
  refine z_istore_n (lv' := [_, _, _, _, _, _, _, _]) F dX0_waitFor_2 (by decide) rfl rfl ?_
  refine z_iconst (v := 0) F dX0_waitFor_3 (by decide) ?_
  refine z_istore (lv' := [_, _, _, _, _, _, _, _]) F dX0_waitFor_4 (by decide) rfl rfl ?_
  exact key nt 0 (-4, M.1 f 4) none none none M (by omega) rfl rfl rfl (zfr.rf M) rfl hr
