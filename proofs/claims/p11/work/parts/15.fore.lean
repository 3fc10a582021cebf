theorem zMet_mono {l : Launch} {y : MethodName} {ws : List Cond} {rm : Room} {Pc : Array Value → State → Prop} {Qc Qd : Array Value → State → Outcome → State → Prop} {mc ms : Nat} {free : Addr → Prop} (h : ∀ a st o t, Qc a st o t → Qd a st o t) (hM : Met l y ws rm Pc Qc mc ms free) : Met l y ws rm Pc Qd mc ms free := by
  intro p e ha hc hk s m args below hf happ hP hK
  obtain ⟨k, o, h1, h2, h3, hq, hL⟩ := hM p e ha hc hk s m args below hf happ hP hK
  exact ⟨k, o, h1, h2, h3, h _ _ _ _ hq, hL⟩
theorem zCv_mono {l : Launch} {w : zE} {y : MethodName} {bytes : ByteArray} {maxL d : Nat} {args : List Value} {M : zM} {p1 p2 : zM → Prop} (h : ∀ M2, p1 M2 → ∃ M3, zEq M2 M3 ∧ p2 M3) (hC : zCv l w y bytes maxL d args M p1) : zCv l w y bytes maxL d args M p2 := by
  refine zMet_mono (fun a st o t q => ?_) hC
  obtain ⟨⟨u, e1, e2, e3⟩, e4⟩ := q
  obtain ⟨M3, h1, h2⟩ := h u e2
  exact ⟨⟨M3, e1, h2, zP_eq h1 e3⟩, e4⟩
theorem zCi_mono {l : Launch} {w : zE} {y : MethodName} {bytes : ByteArray} {maxL d : Nat} {ret : Option FieldType} {args : List Value} {M : zM} {p1 p2 : Int32 → zM → Prop} (h : ∀ v M2, p1 v M2 → ∃ M3, zEq M2 M3 ∧ p2 v M3) (hC : zCi l w y bytes maxL ret d args M p1) : zCi l w y bytes maxL ret d args M p2 := by
  refine zMet_mono (fun a st o t q => ?_) hC
  obtain ⟨⟨r, u, e1, e2, e3⟩, e4⟩ := q
  obtain ⟨M3, h1, h2⟩ := h r u e2
  exact ⟨⟨r, M3, e1, h2, zP_eq h1 e3⟩, e4⟩
/-- as from memories that the heap can't tell apart -/
theorem zPre_eq {w : zE} {args : List Value} {M M' : zM} (e : zEq M M') {a : Array Value} {U : State} (h : zPre w args M a U) : zPre w args M' a U := ⟨h.1, zP_eq e h.2.1, h.2.2⟩
theorem d_X5_setFrom {l : Launch} {w : zE} (J : zJ w) {M : zM} {t t2 : Nat} (ht : zk t = 5) (ht2 : zk t2 = 5) (hne : t2 ≠ t) : zCv l w yX5_setFrom cX5_setFrom 2 1 [.ref (w.2.2 t), .ref (w.2.2 t2)] M (fun M2 => M2 = za M t (M.1 t2)) :=
  zCv_mono (fun M2 h => ⟨_, by rw [h]; exact (zEq.rf M).blk (fun o ho => by rw [ht] at ho; exact cpF_bd ho), rfl⟩) (c_X5_setFrom J ht ht2 hne)
theorem d_X1_setFrom {l : Launch} {w : zE} (J : zJ w) {M : zM} {r r2 : Nat} (hk : zk r = 1) (hk2 : zk r2 = 1) (hne : r2 ≠ r) : zCv l w yX1_setFrom cX1_setFrom 4 1 [.ref (w.2.2 r), .ref (w.2.2 r2)] M (fun M2 => M2 = zrd M r (M.1 r2) (M.1 (r2 + 1)) (M.1 (r2 + 12))) := by
  obtain ⟨e1, e12, e13⟩ := zkf1 r (zk_i hk (by decide)) hk
  refine zCv_mono (fun M2 h => ⟨_, ?_, rfl⟩) (c_X1_setFrom J hk hk2 hne)
  rw [h]
  exact (((zEq.rf M).blk (fun o ho => by rw [e1] at ho; exact cpF_bd ho)).blk (fun o ho => by rw [e12] at ho; exact cpF_bd ho)).blk (fun o ho => by rw [hk] at ho; exact cpF_bd ho)
/-- a foretelling's start: the road and the trip as now -/
def zbeg (M : zM) (f n : Nat) : zM := zt (zrd M (f + 1) (M.1 (n + 1)) (M.1 (n + 1 + 1)) (M.1 (n + 1 + 12))) (f + 15) (M.1 (n + 15)) (-4)
theorem c_X0_begin {l : Launch} {w : zE} (J : zJ w) {M : zM} {f n : Nat} (hk : zk f = 0) (hn : zk n = 6) (hf : f = 87) (hn1 : n = 1) : zCv l w yX0_begin cX0_begin 2 2 [.ref (w.2.2 f), .ref (w.2.2 n)] M (fun M2 => M2 = zbeg M f n) := by
  refine zCv_of J zm_X0_begin [some (.ref (w.2.2 f)), some (.ref (w.2.2 n))] (Nat.le_of_ble_eq_true rfl) rfl (fun g hg F X => ?_)
  subst hg
  refine z_aload_n F dX0_begin_0 rfl ?_
  refine zg_X0_road F (by with_reducible assumption) fl_X0_12 dX0_begin_1 (fun hk_1 => ?_)
  refine z_aload_n F dX0_begin_4 rfl ?_
  refine zg_X6_road F (by with_reducible assumption) fl_X0_32 dX0_begin_5 (fun hk_5 => ?_)
  refine z_callVv F (d_X1_setFrom J (by with_reducible assumption) (by with_reducible assumption) (by omega)) zm_X1_setFrom zv_X1_setFrom ml_X0_35 (by with_reducible assumption) (by decide) rfl rfl rfl (Nat.le_of_ble_eq_true rfl) dX0_begin_8 (by decide) (fun M_8 h_8 => ?_)
  replace h_8 := Eq.symm h_8
  subst h_8
  refine z_aload_n F dX0_begin_11 rfl ?_
  refine zg_X0_trip F (by with_reducible assumption) fl_X0_21 dX0_begin_12 (fun hk_12 => ?_)
  refine z_aload_n F dX0_begin_15 rfl ?_
  refine zg_X6_trip F (by with_reducible assumption) fl_X0_39 dX0_begin_16 (fun hk_16 => ?_)
  refine z_callVv F (d_X5_setFrom J (by with_reducible assumption) (by with_reducible assumption) (by omega)) zm_X5_setFrom zv_X5_setFrom ml_X0_40 (by with_reducible assumption) (by decide) rfl rfl rfl (Nat.le_of_ble_eq_true rfl) dX0_begin_19 (by decide) (fun M_19 h_19 => ?_)
  replace h_19 := Eq.symm h_19
  subst h_19
  refine z_aload_n F dX0_begin_22 rfl ?_
  refine zg_X0_trip F (by with_reducible assumption) fl_X0_21 dX0_begin_23 (fun hk_23 => ?_)
  refine z_bipush (v := (-4)) F dX0_begin_26 (by decide) ?_
  refine zp_X5_refused F (by with_reducible assumption) fl_X0_43 dX0_begin_28 ?_
  refine z_vret F X dX0_begin_31 ?_
  unfold zbeg
  have q : (zrd M (f + 1) (M.1 (n + 1)) (M.1 (n + 1 + 1)) (M.1 (n + 1 + 12))).1 (n + 15) = M.1 (n + 15) := by unfold zrd; rw [za_off _ (by omega), za_off _ (by omega), za_off _ (by omega)]
  rw [q, za_zt, zs_ztr]
/-- home: as many milestones as are left -/
def homeF (rb th pe : zF1) (np : Nat) : Nat → zF1 × Int32 → zF1 × Int32
  | 0, s => s
  | k + 1, s => homeF rb th pe np k (passF rb th pe np 1 s)
theorem c_X0_walkHome {l : Launch} {w : zE} (J : zJ w) {M : zM} {f np a : Nat} (hk : zk f = 0) (hn : M.1 (f + 1) 0 ≤ 10) (hnp : M.1 (f + 1) 1 = nI np) (hnp9 : np ≤ 9) (ha : M.1 (f + 15) 3 = nI a) (ha12 : a ≤ 12) : zCv l w yX0_walkHome cX0_walkHome 2 4 [.ref (w.2.2 f)] M (fun M2 => M2 = zt M (f + 15) (homeF (M.1 (f + 1)) (M.1 (f + 1 + 1)) (M.1 (f + 1 + 12)) np (12 - a) (M.1 (f + 15), M.1 (f + 15 + 1) 0)).1 (homeF (M.1 (f + 1)) (M.1 (f + 1 + 1)) (M.1 (f + 1 + 12)) np (12 - a) (M.1 (f + 15), M.1 (f + 15 + 1) 0)).2) := by
  obtain ⟨k1, k15, k17, k19⟩ := zkf0 f (zk_i hk (by decide)) hk
  have q0 : ∀ T rf, (zt M (f + 15) T rf).1 (f + 1) = M.1 (f + 1) := fun T rf => zt_off (by omega) (by omega)
  have q1 : ∀ T rf, (zt M (f + 15) T rf).1 (f + 1 + 1) = M.1 (f + 1 + 1) := fun T rf => zt_off (by omega) (by omega)
  have q12 : ∀ T rf, (zt M (f + 15) T rf).1 (f + 1 + 12) = M.1 (f + 1 + 12) := fun T rf => zt_off (by omega) (by omega)
  have qt : ∀ T rf, (zt M (f + 15) T rf).1 (f + 15) = T := zt_t M (f + 15)
  have qr : ∀ T rf, (zt M (f + 15) T rf).1 (f + 15 + 1) 0 = rf := fun T rf => by rw [zt_r, va_up_self]
  refine zCv_of J zm_X0_walkHome [some (.ref (w.2.2 f)), none] (Nat.le_of_ble_eq_true rfl) rfl (fun g hg F X => ?_)
  subst hg
  generalize hs1 : homeF (M.1 (f + 1)) (M.1 (f + 1 + 1)) (M.1 (f + 1 + 12)) np (12 - a) (M.1 (f + 15), M.1 (f + 15 + 1) 0) = s1 at X
  have key : ∀ (j k : Nat) (s : zF1 × Int32), k + j = 12 → homeF (M.1 (f + 1)) (M.1 (f + 1 + 1)) (M.1 (f + 1 + 12)) np j s = s1 → ZW w g 2 8 [some (.ref (w.2.2 f)), some (.int (nI k))] [] (zt M (f + 15) s.1 s.2) := by
    intro j
    induction j with
    | zero =>
      intro k s hkj hs
      have hkn : k = 12 := by omega
      subst hkn
      have hs : s = s1 := hs
      subst hs
      refine z_iload_n F dX0_walkHome_8 rfl ?_
      refine z_bipush (v := 12) F dX0_walkHome_9 (by decide) ?_
      refine z_ic_ge (tgt := 33) F dX0_walkHome_11 (by decide) (fun h_11 => ?_) (fun h_11 => absurd h_11 (by decide))
      refine z_vret F X dX0_walkHome_33 ?_
      rfl
    | succ j ih =>
      intro k s hkj hs
      have ih2 := ih (k + 1) (passF (M.1 (f + 1)) (M.1 (f + 1 + 1)) (M.1 (f + 1 + 12)) np 1 s) (by omega) hs
      rw [← nI_1] at ih2
      refine z_iload_n F dX0_walkHome_8 rfl ?_
      refine z_bipush (v := 12) F dX0_walkHome_9 (by decide) ?_
      refine z_ic_ge (tgt := 33) F dX0_walkHome_11 (by decide) (fun h_11 => absurd h_11 (Int32.not_le.mpr (nI_lt (b := 12) (by omega) (by decide)))) (fun h_11 => ?_)
      refine z_aload_n F dX0_walkHome_14 rfl ?_
      refine zg_X0_road F (by with_reducible assumption) fl_X0_12 dX0_walkHome_15 (fun hk_15 => ?_)
      refine z_aload_n F dX0_walkHome_18 rfl ?_
      refine zg_X0_trip F (by with_reducible assumption) fl_X0_21 dX0_walkHome_19 (fun hk_19 => ?_)
      refine z_iconst (v := 1) F dX0_walkHome_22 (by decide) ?_
      refine z_callVi F (c_X1_pass J (by with_reducible assumption) (by with_reducible assumption) (by rw [q0]; exact hn) (np := np) (by rw [q0]; exact hnp) hnp9) zm_X1_pass zv_X1_pass ml_X0_50 (by with_reducible assumption) (by decide) rfl rfl rfl (Nat.le_of_ble_eq_true rfl) dX0_walkHome_23 (by decide) (fun r_23 M_23 h_23 => ?_)
      obtain ⟨e_23, rfl⟩ := h_23
      replace e_23 := Eq.symm e_23
      subst e_23
      refine z_pop F dX0_walkHome_26 rfl ?_
      refine z_iincc (c := 1) (lv' := [_, _]) F dX0_walkHome_27 rfl (by decide) (by decide) rfl rfl ?_
      refine z_goto (tgt := 8) F dX0_walkHome_30 (by decide) ?_
      simp only [qt, q0, q1, q12, qr, zt_zt]
      exact ih2
  have k0 := key (12 - a) a (M.1 (f + 15), M.1 (f + 15 + 1) 0) (by omega) hs1
  rw [zt_self, ← ha] at k0
  refine z_aload_n F dX0_walkHome_0 rfl ?_
  refine zg_X0_trip F (by with_reducible assumption) fl_X0_21 dX0_walkHome_1 (fun hk_1 => ?_)
  refine zg_X5_ahead F (by with_reducible assumption) fl_X0_47 dX0_walkHome_4 ?_
  refine z_istore_n (lv' := [_, _]) F dX0_walkHome_7 (by decide) rfl rfl ?_
  exact k0
