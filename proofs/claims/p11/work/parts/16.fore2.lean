/-- nothing but the foretelling's own blocks differs -/
def zfr (M M' : zM) : Prop := M'.2 = M.2 ∧ ∀ b, (b < 87 ∨ 129 ≤ b) → M'.1 b = M.1 b
theorem zfr.rf (M : zM) : zfr M M := ⟨rfl, fun _ _ => rfl⟩
theorem zfr.tr {M M' M2 : zM} (h : zfr M M') (h2 : zfr M' M2) : zfr M M2 := ⟨h2.1.trans h.1, fun b q => (h2.2 b q).trans (h.2 b q)⟩
theorem zfr.a {M M' : zM} {b : Nat} {f : zF1} (h : zfr M M') (hb : 87 ≤ b ∧ b < 129) : zfr M (za M' b f) := ⟨h.1, fun c q => (za_off _ (by omega)).trans (h.2 c q)⟩
theorem zfr.s {M M' : zM} {b o : Nat} {v : Int32} (h : zfr M M') (hb : 87 ≤ b ∧ b < 129) : zfr M (zs M' b o v) := h.a hb
theorem zfr.t {M M' : zM} {t : Nat} {T : zF1} {rf : Int32} (h : zfr M M') (hb : 87 ≤ t ∧ t + 1 < 129) : zfr M (zt M' t T rf) := ((h.a (by omega)).a (by omega))
theorem zfr.beg {M M' : zM} {f n : Nat} (h : zfr M M') (hf : f = 87) : zfr M (zbeg M' f n) := by
  unfold zbeg zrd
  exact (((h.a (by omega)).a (by omega)).a (by omega)).t (by omega)
theorem zbeg_rb (M : zM) (f n : Nat) : (zbeg M f n).1 (f + 1) = M.1 (n + 1) := by unfold zbeg zrd; rw [zt_off (by omega) (by omega), za_at]
theorem zbeg_th (M : zM) (f n : Nat) : (zbeg M f n).1 (f + 1 + 1) = M.1 (n + 1 + 1) := by unfold zbeg zrd; rw [zt_off (by omega) (by omega), za_off _ (by omega), za_off _ (by omega), za_at]
theorem zbeg_pe (M : zM) (f n : Nat) : (zbeg M f n).1 (f + 1 + 12) = M.1 (n + 1 + 12) := by unfold zbeg zrd; rw [zt_off (by omega) (by omega), za_off _ (by omega), za_at]
theorem zbeg_T (M : zM) (f n : Nat) : (zbeg M f n).1 (f + 15) = M.1 (n + 15) := by unfold zbeg; rw [zt_t]
theorem zbeg_r (M : zM) (f n : Nat) : (zbeg M f n).1 (f + 15 + 1) 0 = -4 := by unfold zbeg; rw [zt_r, va_up_self]
theorem zbeg_off (M : zM) {f n b : Nat} (h : b < f + 1 ∨ f + 17 ≤ b) : (zbeg M f n).1 b = M.1 b := by unfold zbeg zrd; rw [zt_off (by omega) (by omega), za_off _ (by omega), za_off _ (by omega), za_off _ (by omega)]
/-- his way home as it is now -/
def hmF (M : zM) (n np a : Nat) : zF1 × Int32 := homeF (M.1 (n + 1)) (M.1 (n + 1 + 1)) (M.1 (n + 1 + 12)) np (12 - a) (M.1 (n + 15), -4)
/-- what holds of the now that is foretold from -/
def nowOK (M : zM) (n np a : Nat) : Prop := M.1 (n + 1) 0 ≤ 10 ∧ M.1 (n + 1) 1 = nI np ∧ np ≤ 8 ∧ M.1 (n + 15) 3 = nI a ∧ a ≤ 12
theorem nowOK.fr {M M' : zM} {n np a : Nat} (h : nowOK M n np a) (hf : zfr M M') (hn : n = 1) : nowOK M' n np a := by
  unfold nowOK at *
  rw [hf.2 (n + 1) (by omega), hf.2 (n + 15) (by omega)]
  exact h
theorem c_X0_endOf {l : Launch} {w : zE} (J : zJ w) {M : zM} {f n np a : Nat} (hk : zk f = 0) (hn : zk n = 6) (hf : f = 87) (hn1 : n = 1) (ok : nowOK M n np a) : zCr l w yX0_endOf cX0_endOf 2 (some (.object "GladRoad$Trip")) 5 [.ref (w.2.2 f), .ref (w.2.2 n)] M (fun r M2 => r = f + 15 ∧ zfr M M2 ∧ M2.1 (f + 15) = (hmF M n np a).1 ∧ M2.1 (f + 15 + 1) 0 = (hmF M n np a).2) := by
  refine zCr_of J zm_X0_endOf [some (.ref (w.2.2 f)), some (.ref (w.2.2 n))] (Nat.le_of_ble_eq_true rfl) rfl (fun g hg F X => ?_)
  subst hg
  refine z_aload_n F dX0_endOf_0 rfl ?_
  refine z_aload_n F dX0_endOf_1 rfl ?_
  refine z_callVv F (c_X0_begin J hk hn hf hn1) zm_X0_begin zv_X0_begin ml_X0_54 (by with_reducible assumption) (by decide) rfl rfl rfl (Nat.le_of_ble_eq_true rfl) dX0_endOf_2 (by decide) (fun M_2 h_2 => ?_)
  replace h_2 := Eq.symm h_2
  subst h_2
  refine z_aload_n F dX0_endOf_5 rfl ?_
  refine z_callVv F (c_X0_walkHome J hk (by rw [zbeg_rb]; exact ok.1) (np := np) (by rw [zbeg_rb]; exact ok.2.1) (by have := ok.2.2.1; omega) (a := a) (by rw [zbeg_T]; exact ok.2.2.2.1) ok.2.2.2.2) zm_X0_walkHome zv_X0_walkHome ml_X0_58 (by with_reducible assumption) (by decide) rfl rfl rfl (Nat.le_of_ble_eq_true rfl) dX0_endOf_6 (by decide) (fun M_6 h_6 => ?_)
  replace h_6 := Eq.symm h_6
  subst h_6
  refine z_aload_n F dX0_endOf_9 rfl ?_
  refine zg_X0_trip F (by with_reducible assumption) fl_X0_21 dX0_endOf_10 (fun hk_10 => ?_)
  refine z_aret F X dX0_endOf_13 ?_
  refine ⟨rfl, ((zfr.rf M).beg hf).t (by omega), ?_, ?_⟩
  · rw [zt_t, zbeg_rb, zbeg_th, zbeg_pe, zbeg_T, zbeg_r]; rfl
  · rw [zt_r, va_up_self, zbeg_rb, zbeg_th, zbeg_pe, zbeg_T, zbeg_r]; rfl
/-- the heed by which he is cheated of most -/
def heedL (W : Nat → Int32) (v : Int32) : Nat → Nat → Int32 × Int32 → Int32 × Int32
  | 0, _, s => s
  | j + 1, h, s => heedL W v j (h + 1) (if W h ≤ v ∧ (s.1 = -4 ∨ s.2 < W h) then (nI h, W h) else s)
def heedW (rb th pe : zF1) (np a : Nat) (T : zF1) (h : Nat) : Int32 := worthO th (rb 0) (T 0) - worthO th (rb 0) ((homeF (va_up rb 2 (nI h)) th pe np (12 - a) (T, -4)).1 0)
theorem c_X0_heedFor {l : Launch} {w : zE} (J : zJ w) {M : zM} {f n np a : Nat} {v : Int32} (hk : zk f = 0) (hn : zk n = 6) (hf : f = 87) (hn1 : n = 1) (ok : nowOK M n np a) : zCi l w yX0_heedFor cX0_heedFor 7 (some .int) 5 [.ref (w.2.2 f), .int v, .ref (w.2.2 n)] M (fun r M2 => zfr M M2 ∧ r = (heedL (heedW (M.1 (n + 1)) (M.1 (n + 1 + 1)) (M.1 (n + 1 + 12)) np a (M.1 (n + 15))) v 100 0 (-4, 0)).1) := by
  obtain ⟨k1, k15, k17, k19⟩ := zkf0 f (zk_i hk (by decide)) hk
  refine zCi_of J zm_X0_heedFor [some (.ref (w.2.2 f)), some (.int v), some (.ref (w.2.2 n)), none, none, none, none] (Nat.le_of_ble_eq_true rfl) rfl (fun g hg F X => ?_)
  subst hg
  generalize hW : heedW (M.1 (n + 1)) (M.1 (n + 1 + 1)) (M.1 (n + 1 + 12)) np a (M.1 (n + 15)) = W at X
  generalize hr : (heedL W v 100 0 (-4, 0)).1 = r at X
  have key : ∀ (j k : Nat) (s : Int32 × Int32) (x6 : Option Value) (M' : zM), k + j = 100 → zok [none, none, none, none, none, none, x6] 6 = true → zfr M M' → (heedL W v j k s).1 = r → ZW w g 7 9 [some (.ref (w.2.2 f)), some (.int v), some (.ref (w.2.2 n)), some (.int s.1), some (.int s.2), some (.int (nI k)), x6] [] M' := by
    intro j
    induction j with
    | zero =>
      intro k s x6 M' hkj hok hfr hs
      have hkn : k = 100 := by omega
      subst hkn
      refine z_iload F dX0_heedFor_9 rfl ?_
      refine z_bipush (v := 99) F dX0_heedFor_11 (by decide) ?_
      refine z_ic_gt (tgt := 97) F dX0_heedFor_13 (by decide) (fun h_13 => ?_) (fun h_13 => absurd h_13 (by decide))
      refine z_iload_n F dX0_heedFor_97 rfl ?_
      refine z_iret F X dX0_heedFor_98 ?_
      exact ⟨hfr, hs⟩
    | succ j ih =>
      intro k s x6 M' hkj hok hfr hs
      have ok' := ok.fr hfr hn1
      have e1 := hfr.2 (n + 1) (by omega)
      have e2 := hfr.2 (n + 1 + 1) (by omega)
      have e3 := hfr.2 (n + 1 + 12) (by omega)
      have e4 := hfr.2 (n + 15) (by omega)
      have hWk : W k = worthO (M.1 (n + 1 + 1)) (M.1 (n + 1) 0) (M.1 (n + 15) 0) - worthO (M.1 (n + 1 + 1)) (M.1 (n + 1) 0) ((homeF (va_up (M.1 (n + 1)) 2 (nI k)) (M.1 (n + 1 + 1)) (M.1 (n + 1 + 12)) np (12 - a) (M.1 (n + 15), -4)).1 0) := by rw [← hW]; rfl
      have q1 : (zs (zbeg M' f n) (f + 1) 2 (nI k)).1 (f + 1) = va_up (M.1 (n + 1)) 2 (nI k) := by rw [zs_at, zbeg_rb, e1]
      have q2 : (zs (zbeg M' f n) (f + 1) 2 (nI k)).1 (f + 1 + 1) = M.1 (n + 1 + 1) := by rw [zs_off _ (by omega), zbeg_th, e2]
      have q3 : (zs (zbeg M' f n) (f + 1) 2 (nI k)).1 (f + 1 + 12) = M.1 (n + 1 + 12) := by rw [zs_off _ (by omega), zbeg_pe, e3]
      have q4 : (zs (zbeg M' f n) (f + 1) 2 (nI k)).1 (f + 15) = M.1 (n + 15) := by rw [zs_off _ (by omega), zbeg_T, e4]
      have q5 : (zs (zbeg M' f n) (f + 1) 2 (nI k)).1 (f + 15 + 1) 0 = -4 := by rw [zs_off _ (by omega), zbeg_r]
      have q6 : zfr M (zs (zbeg M' f n) (f + 1) 2 (nI k)) := (hfr.beg hf).s (by omega)
      refine z_iload F dX0_heedFor_9 rfl ?_
      refine z_bipush (v := 99) F dX0_heedFor_11 (by decide) ?_
      refine z_ic_gt (tgt := 97) F dX0_heedFor_13 (by decide) (fun h_13 => absurd h_13 (Int32.not_lt.mpr (nI_le (b := 99) (by omega) (by decide)))) (fun h_13 => ?_)
      refine z_aload_n F dX0_heedFor_16 rfl ?_
      refine z_aload_n F dX0_heedFor_17 rfl ?_
      refine z_callVv F (c_X0_begin J hk hn hf hn1) zm_X0_begin zv_X0_begin ml_X0_54 (by with_reducible assumption) (by decide) rfl rfl rfl (Nat.le_of_ble_eq_true rfl) dX0_heedFor_18 (by decide) (fun M_18 h_18 => ?_)
      replace h_18 := Eq.symm h_18
      subst h_18
      refine z_aload_n F dX0_heedFor_21 rfl ?_
      refine zg_X0_road F (by with_reducible assumption) fl_X0_12 dX0_heedFor_22 (fun hk_22 => ?_)
      refine z_iload F dX0_heedFor_25 rfl ?_
      refine zp_X1_heed F (by with_reducible assumption) fl_X0_92 dX0_heedFor_27 ?_
      generalize zs (zbeg M' f n) (f + 1) 2 (nI k) = M1 at q1 q2 q3 q4 q5 q6 ⊢
      have g1 : ∀ T rf, (zt M1 (f + 15) T rf).1 (f + 1) = va_up (M.1 (n + 1)) 2 (nI k) := fun T rf => by rw [zt_off (by omega) (by omega), q1]
      have g2 : ∀ T rf, (zt M1 (f + 15) T rf).1 (f + 1 + 1) = M.1 (n + 1 + 1) := fun T rf => by rw [zt_off (by omega) (by omega), q2]
      have g4 : ∀ T rf, (zt M1 (f + 15) T rf).1 (n + 15) = M.1 (n + 15) := fun T rf => by rw [zt_off (by omega) (by omega), q6.2 _ (by omega)]
      have g5 : ∀ T rf, (zt M1 (f + 15) T rf).1 (f + 15) = T := zt_t M1 (f + 15)
      refine z_aload_n F dX0_heedFor_30 rfl ?_
      refine z_callVv F (c_X0_walkHome J hk (by rw [q1, va_up_ne _ _ (by decide)]; exact ok.1) (np := np) (by rw [q1, va_up_ne _ _ (by decide)]; exact ok.2.1) (by have := ok.2.2.1; omega) (a := a) (by rw [q4]; exact ok.2.2.2.1) ok.2.2.2.2) zm_X0_walkHome zv_X0_walkHome ml_X0_58 (by with_reducible assumption) (by decide) rfl rfl rfl (Nat.le_of_ble_eq_true rfl) dX0_heedFor_31 (by decide) (fun M_31 h_31 => ?_)
      replace h_31 := Eq.symm h_31
      subst h_31
      refine z_aload_n F dX0_heedFor_34 rfl ?_
      refine zg_X0_road F (by with_reducible assumption) fl_X0_12 dX0_heedFor_35 (fun hk_35 => ?_)
      refine z_aload_n F dX0_heedFor_38 rfl ?_
      refine zg_X6_trip F (by with_reducible assumption) fl_X0_39 dX0_heedFor_39 (fun hk_39 => ?_)
      refine zg_X5_his F (by with_reducible assumption) fl_X0_89 dX0_heedFor_42 ?_
      try simp only [g4, g5]
      refine z_callVi F (c_X1_worthOf J (by with_reducible assumption) (by rw [g1, va_up_ne _ _ (by decide)]; exact ok.1)) zm_X1_worthOf zv_X1_worthOf ml_X0_64 (by with_reducible assumption) (by decide) rfl rfl rfl (Nat.le_of_ble_eq_true rfl) dX0_heedFor_45 (by decide) (fun r_45 M_45 h_45 => ?_)
      obtain ⟨e_45, rfl⟩ := h_45
      replace e_45 := Eq.symm e_45
      subst e_45
      refine z_aload_n F dX0_heedFor_48 rfl ?_
      refine zg_X0_road F (by with_reducible assumption) fl_X0_12 dX0_heedFor_49 (fun hk_49 => ?_)
      refine z_aload_n F dX0_heedFor_52 rfl ?_
      refine zg_X0_trip F (by with_reducible assumption) fl_X0_21 dX0_heedFor_53 (fun hk_53 => ?_)
      refine zg_X5_his F (by with_reducible assumption) fl_X0_89 dX0_heedFor_56 ?_
      try simp only [g4, g5]
      refine z_callVi F (c_X1_worthOf J (by with_reducible assumption) (by rw [g1, va_up_ne _ _ (by decide)]; exact ok.1)) zm_X1_worthOf zv_X1_worthOf ml_X0_64 (by with_reducible assumption) (by decide) rfl rfl rfl (Nat.le_of_ble_eq_true rfl) dX0_heedFor_59 (by decide) (fun r_59 M_59 h_59 => ?_)
      obtain ⟨e_59, rfl⟩ := h_59
      replace e_59 := Eq.symm e_59
      subst e_59
      refine z_isub F dX0_heedFor_62 ?_
      simp only [g1, g2, q1, q2, q3, q4, q5, va_up_ne _ _ (show (0 : Nat) ≠ 2 by decide), ← hWk]
      refine z_istore (lv' := [_, _, _, _, _, _, _]) F dX0_heedFor_63 (by decide) rfl rfl ?_
      refine z_iload F dX0_heedFor_65 rfl ?_
      refine z_iload_n F dX0_heedFor_67 rfl ?_
      refine z_ic_gt (tgt := 91) F dX0_heedFor_68 (by decide) (fun h_68 => ?_) (fun h_68 => ?_)
      · try simp only [g4, g5] at h_68
        refine z_iincc (c := 1) (lv' := [_, _, _, _, _, _, _]) F dX0_heedFor_91 rfl (by decide) (by decide) rfl rfl ?_
        refine z_goto (tgt := 9) F dX0_heedFor_94 (by decide) ?_
        rw [nI_1]
        rw [heedL] at hs
        first
          | exact ih (k + 1) s _ _ (by omega) rfl (q6.t (by omega)) ((congrArg (fun x => (heedL W v j (k + 1) x).1) (if_neg (by first | exact fun q => nle h_68 q.1 | exact fun q => q.2.elim h_74 (nlt h_81))).symm).trans hs)
          | exact ih (k + 1) (nI k, W k) _ _ (by omega) rfl (q6.t (by omega)) ((congrArg (fun x => (heedL W v j (k + 1) x).1) (if_pos (by first | exact ⟨h_68, Or.inl h_74⟩ | exact ⟨h_68, Or.inr h_81⟩)).symm).trans hs)
      · try simp only [g4, g5] at h_68
        refine z_iload_n F dX0_heedFor_71 rfl ?_
        refine z_bipush (v := (-4)) F dX0_heedFor_72 (by decide) ?_
        refine z_ic_eq (tgt := 84) F dX0_heedFor_74 (by decide) (fun h_74 => ?_) (fun h_74 => ?_)
        · try simp only [g4, g5] at h_74
          refine z_iload F dX0_heedFor_84 rfl ?_
          refine z_istore_n (lv' := [_, _, _, _, _, _, _]) F dX0_heedFor_86 (by decide) rfl rfl ?_
          refine z_iload F dX0_heedFor_87 rfl ?_
          refine z_istore (lv' := [_, _, _, _, _, _, _]) F dX0_heedFor_89 (by decide) rfl rfl ?_
          refine z_iincc (c := 1) (lv' := [_, _, _, _, _, _, _]) F dX0_heedFor_91 rfl (by decide) (by decide) rfl rfl ?_
          refine z_goto (tgt := 9) F dX0_heedFor_94 (by decide) ?_
          rw [nI_1]
          rw [heedL] at hs
          first
            | exact ih (k + 1) s _ _ (by omega) rfl (q6.t (by omega)) ((congrArg (fun x => (heedL W v j (k + 1) x).1) (if_neg (by first | exact fun q => nle h_68 q.1 | exact fun q => q.2.elim h_74 (nlt h_81))).symm).trans hs)
            | exact ih (k + 1) (nI k, W k) _ _ (by omega) rfl (q6.t (by omega)) ((congrArg (fun x => (heedL W v j (k + 1) x).1) (if_pos (by first | exact ⟨h_68, Or.inl h_74⟩ | exact ⟨h_68, Or.inr h_81⟩)).symm).trans hs)
        · try simp only [g4, g5] at h_74
          refine z_iload F dX0_heedFor_77 rfl ?_
          refine z_iload F dX0_heedFor_79 rfl ?_
          refine z_ic_le (tgt := 91) F dX0_heedFor_81 (by decide) (fun h_81 => ?_) (fun h_81 => ?_)
          · try simp only [g4, g5] at h_81
            refine z_iincc (c := 1) (lv' := [_, _, _, _, _, _, _]) F dX0_heedFor_91 rfl (by decide) (by decide) rfl rfl ?_
            refine z_goto (tgt := 9) F dX0_heedFor_94 (by decide) ?_
            rw [nI_1]
            rw [heedL] at hs
            first
              | exact ih (k + 1) s _ _ (by omega) rfl (q6.t (by omega)) ((congrArg (fun x => (heedL W v j (k + 1) x).1) (if_neg (by first | exact fun q => nle h_68 q.1 | exact fun q => q.2.elim h_74 (nlt h_81))).symm).trans hs)
              | exact ih (k + 1) (nI k, W k) _ _ (by omega) rfl (q6.t (by omega)) ((congrArg (fun x => (heedL W v j (k + 1) x).1) (if_pos (by first | exact ⟨h_68, Or.inl h_74⟩ | exact ⟨h_68, Or.inr h_81⟩)).symm).trans hs)
          · try simp only [g4, g5] at h_81
            refine z_iload F dX0_heedFor_84 rfl ?_
            refine z_istore_n (lv' := [_, _, _, _, _, _, _]) F dX0_heedFor_86 (by decide) rfl rfl ?_
            refine z_iload F dX0_heedFor_87 rfl ?_
            refine z_istore (lv' := [_, _, _, _, _, _, _]) F dX0_heedFor_89 (by decide) rfl rfl ?_
            refine z_iincc (c := 1) (lv' := [_, _, _, _, _, _, _]) F dX0_heedFor_91 rfl (by decide) (by decide) rfl rfl ?_
            refine z_goto (tgt := 9) F dX0_heedFor_94 (by decide) ?_
            rw [nI_1]
            rw [heedL] at hs
            first
              | exact ih (k + 1) s _ _ (by omega) rfl (q6.t (by omega)) ((congrArg (fun x => (heedL W v j (k + 1) x).1) (if_neg (by first | exact fun q => nle h_68 q.1 | exact fun q => q.2.elim h_74 (nlt h_81))).symm).trans hs)
              | exact ih (k + 1) (nI k, W k) _ _ (by omega) rfl (q6.t (by omega)) ((congrArg (fun x => (heedL W v j (k + 1) x).1) (if_pos (by first | exact ⟨h_68, Or.inl h_74⟩ | exact ⟨h_68, Or.inr h_81⟩)).symm).trans hs)
  refine z_bipush (v := (-4)) F dX0_heedFor_0 (by decide) ?_
  refine z_istore_n (lv' := [_, _, _, _, _, _, _]) F dX0_heedFor_2 (by decide) rfl rfl ?_
  refine z_iconst (v := 0) F dX0_heedFor_3 (by decide) ?_
  refine z_istore (lv' := [_, _, _, _, _, _, _]) F dX0_heedFor_4 (by decide) rfl rfl ?_
  refine z_iconst (v := 0) F dX0_heedFor_6 (by decide) ?_
  refine z_istore (lv' := [_, _, _, _, _, _, _]) F dX0_heedFor_7 (by decide) rfl rfl ?_
  exact key 100 0 (-4, 0) none M (by omega) rfl (zfr.rf M) hr
