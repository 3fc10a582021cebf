theorem zfr_5 {M M' : zM} {n : Nat} (h : zfr M M') (hn : n = 1) : M'.1 (n + 1) = M.1 (n + 1) ∧ M'.1 (n + 1 + 1) = M.1 (n + 1 + 1) ∧ M'.1 (n + 1 + 12) = M.1 (n + 1 + 12) ∧ M'.1 (n + 15) = M.1 (n + 15) := ⟨h.2 _ (by omega), h.2 _ (by omega), h.2 _ (by omega), h.2 _ (by omega)⟩
/-- which things could have been his first -/
def firstL (V Q : Nat → Int32) (x : Int32) : Nat → Nat → Int32 → Int32
  | 0, _, s => s
  | j + 1, k, s => firstL V Q x j (k + 1) (if V k = -4 ∧ Q k = x then s ||| (1 <<< (nI k &&& 31)) else s)
def firstQ (rb th pe : zF1) (np a : Nat) (T : zF1) (k : Nat) : Int32 := (homeF rb th pe np (12 - a) (va_up T 0 (nI k), -4)).1 0
theorem c_X0_firstsFor {l : Launch} {w : zE} (J : zJ w) {M : zM} {f n np a nt : Nat} {x : Int32} (hk : zk f = 0) (hn : zk n = 6) (hf : f = 87) (hn1 : n = 1) (ok : nowOK M n np a) (hnt : M.1 (n + 1) 0 = nI nt) (hnt10 : nt ≤ 10) : zCi l w yX0_firstsFor cX0_firstsFor 5 (some .int) 5 [.ref (w.2.2 f), .int x, .ref (w.2.2 n)] M (fun r M2 => zfr M M2 ∧ r = firstL (fun k => whoF (M.1 (n + 15)) np (nI k)) (firstQ (M.1 (n + 1)) (M.1 (n + 1 + 1)) (M.1 (n + 1 + 12)) np a (M.1 (n + 15))) x nt 0 0) := by
  obtain ⟨k1, k15, k17, k19⟩ := zkf0 f (zk_i hk (by decide)) hk
  refine zCi_of J zm_X0_firstsFor [some (.ref (w.2.2 f)), some (.int x), some (.ref (w.2.2 n)), none, none] (Nat.le_of_ble_eq_true rfl) rfl (fun g hg F X => ?_)
  subst hg
  generalize hV : (fun k => whoF (M.1 (n + 15)) np (nI k)) = V at X
  generalize hQ : firstQ (M.1 (n + 1)) (M.1 (n + 1 + 1)) (M.1 (n + 1 + 12)) np a (M.1 (n + 15)) = Q at X
  generalize hr : firstL V Q x nt 0 0 = r at X
  have key : ∀ (j k : Nat) (s : Int32) (M' : zM), k + j = nt → zfr M M' → firstL V Q x j k s = r → ZW w g 5 5 [some (.ref (w.2.2 f)), some (.int x), some (.ref (w.2.2 n)), some (.int s), some (.int (nI k))] [] M' := by
    intro j
    induction j with
    | zero =>
      intro k s M' hkj hfr hs
      obtain ⟨e1, e2, e3, e4⟩ := zfr_5 hfr hn1
      refine z_iload F dX0_firstsFor_5 rfl ?_
      refine z_aload_n F dX0_firstsFor_7 rfl ?_
      refine zg_X6_road F (by with_reducible assumption) fl_X0_32 dX0_firstsFor_8 (fun hk_8 => ?_)
      refine zg_X1_thingCount F (by with_reducible assumption) fl_X0_61 dX0_firstsFor_11 ?_
      try simp only [e1, e4]
      refine z_ic_ge (tgt := 80) F dX0_firstsFor_14 (by decide) (fun h_14 => ?_) (fun h_14 => absurd h_14 (Int32.not_lt.mpr (by rw [hnt]; exact nI_le (by omega) (by omega))))
      refine z_iload_n F dX0_firstsFor_80 rfl ?_
      refine z_iret F X dX0_firstsFor_81 ?_
      exact ⟨hfr, hs⟩
    | succ j ih =>
      intro k s M' hkj hfr hs
      obtain ⟨e1, e2, e3, e4⟩ := zfr_5 hfr hn1
      have hVk : V k = whoF (M.1 (n + 15)) np (nI k) := by rw [← hV]
      have hQk : Q k = (homeF (M.1 (n + 1)) (M.1 (n + 1 + 1)) (M.1 (n + 1 + 12)) np (12 - a) (va_up (M.1 (n + 15)) 0 (nI k), -4)).1 0 := by rw [← hQ]; rfl
      have q1 : (zs (zbeg M' f n) (f + 15) 0 (nI k)).1 (f + 1) = M.1 (n + 1) := by rw [zs_off _ (by omega), zbeg_rb, e1]
      have q2 : (zs (zbeg M' f n) (f + 15) 0 (nI k)).1 (f + 1 + 1) = M.1 (n + 1 + 1) := by rw [zs_off _ (by omega), zbeg_th, e2]
      have q3 : (zs (zbeg M' f n) (f + 15) 0 (nI k)).1 (f + 1 + 12) = M.1 (n + 1 + 12) := by rw [zs_off _ (by omega), zbeg_pe, e3]
      have q4 : (zs (zbeg M' f n) (f + 15) 0 (nI k)).1 (f + 15) = va_up (M.1 (n + 15)) 0 (nI k) := by rw [zs_at, zbeg_T, e4]
      have q5 : (zs (zbeg M' f n) (f + 15) 0 (nI k)).1 (f + 15 + 1) 0 = -4 := by rw [zs_off _ (by omega), zbeg_r]
      have q6 : zfr M (zs (zbeg M' f n) (f + 15) 0 (nI k)) := (hfr.beg hf).s (by omega)
      refine z_iload F dX0_firstsFor_5 rfl ?_
      refine z_aload_n F dX0_firstsFor_7 rfl ?_
      refine zg_X6_road F (by with_reducible assumption) fl_X0_32 dX0_firstsFor_8 (fun hk_8 => ?_)
      refine zg_X1_thingCount F (by with_reducible assumption) fl_X0_61 dX0_firstsFor_11 ?_
      try simp only [e1, e4, zt_t, q1, q2, q3, q4, q5, ← hQk, ← hVk]
      refine z_ic_ge (tgt := 80) F dX0_firstsFor_14 (by decide) (fun h_14 => absurd h_14 (Int32.not_le.mpr (by rw [hnt]; exact nI_lt (by omega) (by omega)))) (fun h_14 => ?_)
      refine z_aload_n F dX0_firstsFor_17 rfl ?_
      refine zg_X6_road F (by with_reducible assumption) fl_X0_32 dX0_firstsFor_18 (fun hk_18 => ?_)
      refine z_iload F dX0_firstsFor_21 rfl ?_
      refine z_aload_n F dX0_firstsFor_23 rfl ?_
      refine zg_X6_trip F (by with_reducible assumption) fl_X0_39 dX0_firstsFor_24 (fun hk_24 => ?_)
      refine z_callVi F (c_X1_whoHas J (by with_reducible assumption) (by with_reducible assumption) (np := np) (by rw [e1]; exact ok.2.1) (by have := ok.2.2.1; omega)) zm_X1_whoHas zv_X1_whoHas ml_X0_68 (by with_reducible assumption) (by decide) rfl rfl rfl (Nat.le_of_ble_eq_true rfl) dX0_firstsFor_27 (by decide) (fun r_27 M_27 h_27 => ?_)
      obtain ⟨e_27, rfl⟩ := h_27
      replace e_27 := Eq.symm e_27
      subst e_27
      refine z_bipush (v := (-4)) F dX0_firstsFor_30 (by decide) ?_
      refine z_ic_eq (tgt := 38) F dX0_firstsFor_32 (by decide) (fun h_32 => ?_) (fun h_32 => ?_)
      · try simp only [e1, e4, zt_t, q1, q2, q3, q4, q5, ← hQk, ← hVk] at h_32
        refine z_aload_n F dX0_firstsFor_38 rfl ?_
        refine z_aload_n F dX0_firstsFor_39 rfl ?_
        refine z_callVv F (c_X0_begin J hk hn hf hn1) zm_X0_begin zv_X0_begin ml_X0_54 (by with_reducible assumption) (by decide) rfl rfl rfl (Nat.le_of_ble_eq_true rfl) dX0_firstsFor_40 (by decide) (fun M_40 h_40 => ?_)
        replace h_40 := Eq.symm h_40
        subst h_40
        refine z_aload_n F dX0_firstsFor_43 rfl ?_
        refine zg_X0_trip F (by with_reducible assumption) fl_X0_21 dX0_firstsFor_44 (fun hk_44 => ?_)
        refine z_iload F dX0_firstsFor_47 rfl ?_
        refine zp_X5_his F (by with_reducible assumption) fl_X0_89 dX0_firstsFor_49 ?_
        refine z_aload_n F dX0_firstsFor_52 rfl ?_
        refine z_callVv F (c_X0_walkHome J hk (by rw [q1]; exact ok.1) (np := np) (by rw [q1]; exact ok.2.1) (by have := ok.2.2.1; omega) (a := a) (by rw [q4, va_up_ne _ _ (by decide)]; exact ok.2.2.2.1) ok.2.2.2.2) zm_X0_walkHome zv_X0_walkHome ml_X0_58 (by with_reducible assumption) (by decide) rfl rfl rfl (Nat.le_of_ble_eq_true rfl) dX0_firstsFor_53 (by decide) (fun M_53 h_53 => ?_)
        replace h_53 := Eq.symm h_53
        subst h_53
        refine z_aload_n F dX0_firstsFor_56 rfl ?_
        refine zg_X0_trip F (by with_reducible assumption) fl_X0_21 dX0_firstsFor_57 (fun hk_57 => ?_)
        refine zg_X5_his F (by with_reducible assumption) fl_X0_89 dX0_firstsFor_60 ?_
        try simp only [e1, e4, zt_t, q1, q2, q3, q4, q5, ← hQk, ← hVk]
        refine z_iload_n F dX0_firstsFor_63 rfl ?_
        refine z_ic_ne (tgt := 74) F dX0_firstsFor_64 (by decide) (fun h_64 => ?_) (fun h_64 => ?_)
        · try simp only [e1, e4, zt_t, q1, q2, q3, q4, q5, ← hQk, ← hVk] at h_64
          refine z_iincc (c := 1) (lv' := [_, _, _, _, _]) F dX0_firstsFor_74 rfl (by decide) (by decide) rfl rfl ?_
          refine z_goto (tgt := 5) F dX0_firstsFor_77 (by decide) ?_
          rw [nI_1]
          rw [firstL] at hs
          first
            | exact ih (k + 1) s _ (by omega) hfr ((congrArg (fun z => firstL V Q x j (k + 1) z) (if_neg (fun q => h_32 q.1)).symm).trans hs)
            | exact ih (k + 1) s _ (by omega) (q6.t (by omega)) ((congrArg (fun z => firstL V Q x j (k + 1) z) (if_neg (fun q => h_64 q.2)).symm).trans hs)
            | exact ih (k + 1) (s ||| (1 <<< (nI k &&& 31))) _ (by omega) (q6.t (by omega)) ((congrArg (fun z => firstL V Q x j (k + 1) z) (if_pos ⟨h_32, h_64⟩).symm).trans hs)
        · try simp only [e1, e4, zt_t, q1, q2, q3, q4, q5, ← hQk, ← hVk] at h_64
          refine z_iload_n F dX0_firstsFor_67 rfl ?_
          refine z_iconst (v := 1) F dX0_firstsFor_68 (by decide) ?_
          refine z_iload F dX0_firstsFor_69 rfl ?_
          refine z_ishl F dX0_firstsFor_71 ?_
          refine z_ior F dX0_firstsFor_72 ?_
          refine z_istore_n (lv' := [_, _, _, _, _]) F dX0_firstsFor_73 (by decide) rfl rfl ?_
          refine z_iincc (c := 1) (lv' := [_, _, _, _, _]) F dX0_firstsFor_74 rfl (by decide) (by decide) rfl rfl ?_
          refine z_goto (tgt := 5) F dX0_firstsFor_77 (by decide) ?_
          rw [nI_1]
          rw [firstL] at hs
          first
            | exact ih (k + 1) s _ (by omega) hfr ((congrArg (fun z => firstL V Q x j (k + 1) z) (if_neg (fun q => h_32 q.1)).symm).trans hs)
            | exact ih (k + 1) s _ (by omega) (q6.t (by omega)) ((congrArg (fun z => firstL V Q x j (k + 1) z) (if_neg (fun q => h_64 q.2)).symm).trans hs)
            | exact ih (k + 1) (s ||| (1 <<< (nI k &&& 31))) _ (by omega) (q6.t (by omega)) ((congrArg (fun z => firstL V Q x j (k + 1) z) (if_pos ⟨h_32, h_64⟩).symm).trans hs)
      · try simp only [e1, e4, zt_t, q1, q2, q3, q4, q5, ← hQk, ← hVk] at h_32
        refine z_goto (tgt := 74) F dX0_firstsFor_35 (by decide) ?_
        refine z_iincc (c := 1) (lv' := [_, _, _, _, _]) F dX0_firstsFor_74 rfl (by decide) (by decide) rfl rfl ?_
        refine z_goto (tgt := 5) F dX0_firstsFor_77 (by decide) ?_
        rw [nI_1]
        rw [firstL] at hs
        first
          | exact ih (k + 1) s _ (by omega) hfr ((congrArg (fun z => firstL V Q x j (k + 1) z) (if_neg (fun q => h_32 q.1)).symm).trans hs)
          | exact ih (k + 1) s _ (by omega) (q6.t (by omega)) ((congrArg (fun z => firstL V Q x j (k + 1) z) (if_neg (fun q => h_64 q.2)).symm).trans hs)
          | exact ih (k + 1) (s ||| (1 <<< (nI k &&& 31))) _ (by omega) (q6.t (by omega)) ((congrArg (fun z => firstL V Q x j (k + 1) z) (if_pos ⟨h_32, h_64⟩).symm).trans hs)
  refine z_iconst (v := 0) F dX0_firstsFor_0 (by decide) ?_
  refine z_istore_n (lv' := [_, _, _, _, _]) F dX0_firstsFor_1 (by decide) rfl rfl ?_
  refine z_iconst (v := 0) F dX0_firstsFor_2 (by decide) ?_
  refine z_istore (lv' := [_, _, _, _, _]) F dX0_firstsFor_3 (by decide) rfl rfl ?_
  exact key nt 0 0 M (by omega) (zfr.rf M) hr
/-- where to stand for most -/
def standL (W : Nat → Int32) : Nat → Nat → Int32 × Int32 → Int32 × Int32
  | 0, _, s => s
  | j + 1, k, s => standL W j (k + 1) (if s.1 < W k then (W k, nI k) else s)
def standW (rb th pe : zF1) (np a : Nat) (T : zF1) (p k : Nat) : Int32 := worthO th (rb 0) ((homeF rb th (va_up pe (2 * p) (nI k)) np (12 - a) (T, -4)).1 (5 + p))
theorem c_X0_mostWorthOf {l : Launch} {w : zE} (J : zJ w) {M : zM} {f n np a p : Nat} (hk : zk f = 0) (hn : zk n = 6) (hf : f = 87) (hn1 : n = 1) (ok : nowOK M n np a) (hp : p < np) : zCi l w yX0_mostWorthOf cX0_mostWorthOf 6 (some .int) 5 [.ref (w.2.2 f), .int (nI p), .ref (w.2.2 n)] M (fun r M2 => zfr M M2 ∧ r = (standL (standW (M.1 (n + 1)) (M.1 (n + 1 + 1)) (M.1 (n + 1 + 12)) np a (M.1 (n + 15)) p) (12 - a) a (-1, M.1 f 4)).1 ∧ M2.1 f 4 = (standL (standW (M.1 (n + 1)) (M.1 (n + 1 + 1)) (M.1 (n + 1 + 12)) np a (M.1 (n + 15)) p) (12 - a) a (-1, M.1 f 4)).2) := by
  obtain ⟨k1, k15, k17, k19⟩ := zkf0 f (zk_i hk (by decide)) hk
  have hp8 : p < 8 := by have := ok.2.2.1; omega
  have hpin : vp_in (nI p) 9 := vp_in_nI (by omega) (by decide)
  have hpc : (nI p).toNatClampNeg = p := nI_clamp (by omega)
  refine zCi_of J zm_X0_mostWorthOf [some (.ref (w.2.2 f)), some (.int (nI p)), some (.ref (w.2.2 n)), none, none, none] (Nat.le_of_ble_eq_true rfl) rfl (fun g hg F X => ?_)
  subst hg
  generalize hW : standW (M.1 (n + 1)) (M.1 (n + 1 + 1)) (M.1 (n + 1 + 12)) np a (M.1 (n + 15)) p = W at X
  generalize hr : standL W (12 - a) a (-1, M.1 f 4) = r at X
  have key : ∀ (j k : Nat) (s : Int32 × Int32) (x5 : Option Value) (M' : zM), k + j = 12 → zok [none, none, none, none, none, x5] 5 = true → zfr M M' → M'.1 f 4 = s.2 → standL W j k s = r → ZW w g 6 11 [some (.ref (w.2.2 f)), some (.int (nI p)), some (.ref (w.2.2 n)), some (.int s.1), some (.int (nI k)), x5] [] M' := by
    intro j
    induction j with
    | zero =>
      intro k s x5 M' hkj hok hfr hm hs
      have hkn : k = 12 := by omega
      subst hkn
      have hs : s = r := hs
      subst hs
      refine z_iload F dX0_mostWorthOf_11 rfl ?_
      refine z_bipush (v := 12) F dX0_mostWorthOf_13 (by decide) ?_
      refine z_ic_ge (tgt := 77) F dX0_mostWorthOf_15 (by decide) (fun h_15 => ?_) (fun h_15 => absurd h_15 (by decide))
      refine z_iload_n F dX0_mostWorthOf_77 rfl ?_
      refine z_iret F X dX0_mostWorthOf_78 ?_
      exact ⟨hfr, rfl, hm⟩
    | succ j ih =>
      intro k s x5 M' hkj hok hfr hm hs
      obtain ⟨e1, e2, e3, e4⟩ := zfr_5 hfr hn1
      have hWk : W k = worthO (M.1 (n + 1 + 1)) (M.1 (n + 1) 0) ((homeF (M.1 (n + 1)) (M.1 (n + 1 + 1)) (va_up (M.1 (n + 1 + 12)) (2 * p) (nI k)) np (12 - a) (M.1 (n + 15), -4)).1 (5 + p)) := by rw [← hW]; rfl
      have q0 : (zs (zbeg M' f n) (f + 1 + 12) (2 * p) (nI k)).1 f 4 = s.2 := by rw [zs_off _ (by omega), zbeg_off _ (by omega), hm]
      have q1 : (zs (zbeg M' f n) (f + 1 + 12) (2 * p) (nI k)).1 (f + 1) = M.1 (n + 1) := by rw [zs_off _ (by omega), zbeg_rb, e1]
      have q2 : (zs (zbeg M' f n) (f + 1 + 12) (2 * p) (nI k)).1 (f + 1 + 1) = M.1 (n + 1 + 1) := by rw [zs_off _ (by omega), zbeg_th, e2]
      have q3 : (zs (zbeg M' f n) (f + 1 + 12) (2 * p) (nI k)).1 (f + 1 + 12) = va_up (M.1 (n + 1 + 12)) (2 * p) (nI k) := by rw [zs_at, zbeg_pe, e3]
      have q4 : (zs (zbeg M' f n) (f + 1 + 12) (2 * p) (nI k)).1 (f + 15) = M.1 (n + 15) := by rw [zs_off _ (by omega), zbeg_T, e4]
      have q5 : (zs (zbeg M' f n) (f + 1 + 12) (2 * p) (nI k)).1 (f + 15 + 1) 0 = -4 := by rw [zs_off _ (by omega), zbeg_r]
      have q6 : zfr M (zs (zbeg M' f n) (f + 1 + 12) (2 * p) (nI k)) := (hfr.beg hf).s (by omega)
      refine z_iload F dX0_mostWorthOf_11 rfl ?_
      refine z_bipush (v := 12) F dX0_mostWorthOf_13 (by decide) ?_
      refine z_ic_ge (tgt := 77) F dX0_mostWorthOf_15 (by decide) (fun h_15 => absurd h_15 (Int32.not_le.mpr (nI_lt (b := 12) (by omega) (by decide)))) (fun h_15 => ?_)
      refine z_aload_n F dX0_mostWorthOf_18 rfl ?_
      refine z_aload_n F dX0_mostWorthOf_19 rfl ?_
      refine z_callVv F (c_X0_begin J hk hn hf hn1) zm_X0_begin zv_X0_begin ml_X0_54 (by with_reducible assumption) (by decide) rfl rfl rfl (Nat.le_of_ble_eq_true rfl) dX0_mostWorthOf_20 (by decide) (fun M_20 h_20 => ?_)
      replace h_20 := Eq.symm h_20
      subst h_20
      refine z_aload_n F dX0_mostWorthOf_23 rfl ?_
      refine zg_X0_road F (by with_reducible assumption) fl_X0_12 dX0_mostWorthOf_24 (fun hk_24 => ?_)
      refine zg_X1_where F (by with_reducible assumption) fl_X0_83 dX0_mostWorthOf_27 (fun hk_27 => ?_)
      refine z_iload_n F dX0_mostWorthOf_30 rfl ?_
      refine z_iload F dX0_mostWorthOf_31 rfl ?_
      refine z_iast12 F (by with_reducible assumption) hpin dX0_mostWorthOf_33 ?_
      rw [hpc]
      generalize zs (zbeg M' f n) (f + 1 + 12) (2 * p) (nI k) = M1 at q0 q1 q2 q3 q4 q5 q6 ⊢
      have g0 : ∀ T rf, (zt M1 (f + 15) T rf).1 f 4 = s.2 := fun T rf => by rw [zt_off (by omega) (by omega), q0]
      have g1 : ∀ T rf, (zt M1 (f + 15) T rf).1 (f + 1) = M.1 (n + 1) := fun T rf => by rw [zt_off (by omega) (by omega), q1]
      have g2 : ∀ T rf, (zt M1 (f + 15) T rf).1 (f + 1 + 1) = M.1 (n + 1 + 1) := fun T rf => by rw [zt_off (by omega) (by omega), q2]
      refine z_aload_n F dX0_mostWorthOf_34 rfl ?_
      refine z_callVv F (c_X0_walkHome J hk (by rw [q1]; exact ok.1) (np := np) (by rw [q1]; exact ok.2.1) (by have := ok.2.2.1; omega) (a := a) (by rw [q4]; exact ok.2.2.2.1) ok.2.2.2.2) zm_X0_walkHome zv_X0_walkHome ml_X0_58 (by with_reducible assumption) (by decide) rfl rfl rfl (Nat.le_of_ble_eq_true rfl) dX0_mostWorthOf_35 (by decide) (fun M_35 h_35 => ?_)
      replace h_35 := Eq.symm h_35
      subst h_35
      refine z_aload_n F dX0_mostWorthOf_38 rfl ?_
      refine zg_X0_road F (by with_reducible assumption) fl_X0_12 dX0_mostWorthOf_39 (fun hk_39 => ?_)
      refine z_aload_n F dX0_mostWorthOf_42 rfl ?_
      refine zg_X0_trip F (by with_reducible assumption) fl_X0_21 dX0_mostWorthOf_43 (fun hk_43 => ?_)
      refine zg_X5_theirs F (by with_reducible assumption) fl_X0_76 dX0_mostWorthOf_46 (fun hk_46 => ?_)
      refine z_iload_n F dX0_mostWorthOf_49 rfl ?_
      refine z_iald11 F (by with_reducible assumption) hpin dX0_mostWorthOf_50 ?_
      try simp only [zt_t, hpc, q1, q2, q3, q4, q5]
      refine z_callVi F (c_X1_worthOf J (by with_reducible assumption) (by rw [g1]; exact ok.1)) zm_X1_worthOf zv_X1_worthOf ml_X0_64 (by with_reducible assumption) (by decide) rfl rfl rfl (Nat.le_of_ble_eq_true rfl) dX0_mostWorthOf_51 (by decide) (fun r_51 M_51 h_51 => ?_)
      obtain ⟨e_51, rfl⟩ := h_51
      replace e_51 := Eq.symm e_51
      subst e_51
      simp only [g1, g2, ← hWk]
      refine z_istore (lv' := [_, _, _, _, _, _]) F dX0_mostWorthOf_54 (by decide) rfl rfl ?_
      refine z_iload F dX0_mostWorthOf_56 rfl ?_
      refine z_iload_n F dX0_mostWorthOf_58 rfl ?_
      refine z_ic_le (tgt := 71) F dX0_mostWorthOf_59 (by decide) (fun h_59 => ?_) (fun h_59 => ?_)
      · try simp only [zt_t, hpc, q1, q2, q3, q4, q5] at h_59
        refine z_iincc (c := 1) (lv' := [_, _, _, _, _, _]) F dX0_mostWorthOf_71 rfl (by decide) (by decide) rfl rfl ?_
        refine z_goto (tgt := 11) F dX0_mostWorthOf_74 (by decide) ?_
        rw [nI_1]
        rw [standL] at hs
        first
          | exact ih (k + 1) s _ _ (by omega) rfl (q6.t (by omega)) (g0 _ _) ((congrArg (fun z => standL W j (k + 1) z) (if_neg (nlt h_59)).symm).trans hs)
          | exact ih (k + 1) (W k, nI k) _ _ (by omega) rfl ((q6.t (by omega)).s (by omega)) (by rw [zs_at, va_up_self]) ((congrArg (fun z => standL W j (k + 1) z) (if_pos h_59).symm).trans hs)
      · try simp only [zt_t, hpc, q1, q2, q3, q4, q5] at h_59
        refine z_iload F dX0_mostWorthOf_62 rfl ?_
        refine z_istore_n (lv' := [_, _, _, _, _, _]) F dX0_mostWorthOf_64 (by decide) rfl rfl ?_
        refine z_aload_n F dX0_mostWorthOf_65 rfl ?_
        refine z_iload F dX0_mostWorthOf_66 rfl ?_
        refine zp_X0_milestone F (by with_reducible assumption) fl_X0_80 dX0_mostWorthOf_68 ?_
        refine z_iincc (c := 1) (lv' := [_, _, _, _, _, _]) F dX0_mostWorthOf_71 rfl (by decide) (by decide) rfl rfl ?_
        refine z_goto (tgt := 11) F dX0_mostWorthOf_74 (by decide) ?_
        rw [nI_1]
        rw [standL] at hs
        first
          | exact ih (k + 1) s _ _ (by omega) rfl (q6.t (by omega)) (g0 _ _) ((congrArg (fun z => standL W j (k + 1) z) (if_neg (nlt h_59)).symm).trans hs)
          | exact ih (k + 1) (W k, nI k) _ _ (by omega) rfl ((q6.t (by omega)).s (by omega)) (by rw [zs_at, va_up_self]) ((congrArg (fun z => standL W j (k + 1) z) (if_pos h_59).symm).trans hs)
  have k0 := key (12 - a) a (-1, M.1 f 4) none M (by have := ok.2.2.2.2; omega) rfl (zfr.rf M) rfl hr
  rw [← ok.2.2.2.1] at k0
  refine z_iconst (v := (-1)) F dX0_mostWorthOf_0 (by decide) ?_
  refine z_istore_n (lv' := [_, _, _, _, _, _]) F dX0_mostWorthOf_1 (by decide) rfl rfl ?_
  refine z_aload_n F dX0_mostWorthOf_2 rfl ?_
  refine zg_X6_trip F (by with_reducible assumption) fl_X0_39 dX0_mostWorthOf_3 (fun hk_3 => ?_)
  refine zg_X5_ahead F (by with_reducible assumption) fl_X0_47 dX0_mostWorthOf_6 ?_
  refine z_istore (lv' := [_, _, _, _, _, _]) F dX0_mostWorthOf_9 (by decide) rfl rfl ?_
  exact k0
