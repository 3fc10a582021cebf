/-! the reference's constructor: its cells are made; then, over the whole memory, its lanes, well, heed and start -/
abbrev d8L : List Value := [.int 0, .int 0, .null, .null, .null, .int 0, .int 0, .int 0, .int 0, .null, .int 0, .int 0, .int 0, .int 0, .int 0, .int 0, .null, .null, .int 0, .null, .int 0, .null, .null, .null, .null, .int 0, .null, .null, .null, .null]
def M1 : zM := zs (za (zs (zs (zs (zs (zs (zs M0 150 0 (-1)) 150 1 (-1)) 150 2 (-1)) 150 3 (-1)) 138 6 (-4)) 138 5 99) 141 (startT ((zs (zs (zs (zs (zs (zs M0 150 0 (-1)) 150 1 (-1)) 150 2 (-1)) 150 3 (-1)) 138 6 (-4)) 138 5 99).1 141))) 138 20 0
def q8 (D : va_G) (cA : Nat → ClassId) (sz a b : Nat) : Array Value → State → Outcome → State → Prop := va_Qv (S := zM) (fun M => M = M1) (fun M t => zP (zw D cA sz a b) M t.heap) (bA sz)
def p8 (D : va_G) (cA : Nat → ClassId) (sz a b : Nat) (f : Nat → va_E) : Array Value → State → Prop := va_Pc [.ref (sz + 138)] (fun U => U.heap.size = sz + 139 ∧ bP (zw D cA sz a b) sz 139 (va_up (tX7 (zw D cA sz a b) sz 0 f) 138 (.inr (8, d8L))) U.heap ∧ va_K D vwCl (zT (zw D cA sz a b)) U ∧ bX U ∧ zSt (zw D cA sz a b) (bA sz) U U.heap)
theorem t8_walk {w : zE} {g : zG} (F : zF w g RX8 cX8_init 2 2) (J : zJ w) (K : ∀ lv, ZW w g 2 159 lv [] M1) : ZW w g 2 123 [some (.ref (w.2.2 138)), none] [] M0 := by
  have hk : zk 138 = 8 := by decide
  obtain ⟨hz1, hz2, hz3, hz4, hz5, hz6, hz7, hz8, hz9, hz10, hz11, hz12, hz13, hz14, hz15⟩ := zn8 (show 138 = 138 from rfl)
  refine z_iconst (v := 0) F dX8_init_123 (by decide) ?_
  refine z_istore_n (lv' := [_, _]) F dX8_init_124 (by decide) rfl rfl ?_
  refine z_iload_n F dX8_init_125 rfl ?_
  refine z_iconst (v := 4) F dX8_init_126 (by decide) ?_
  refine z_ic_ge (tgt := 143) F dX8_init_127 (by decide) (fun h_127 => absurd h_127 (by decide)) (fun h_127 => ?_)
  refine z_aload_n F dX8_init_130 rfl ?_
  refine zg_X8_lanes F (by with_reducible assumption) fl_X8_43 dX8_init_131 (fun hk_131 => ?_)
  refine z_iload_n F dX8_init_134 rfl ?_
  refine z_iconst (v := (-1)) F dX8_init_135 (by decide) ?_
  refine z_iast10n (q := 0) F (by with_reducible assumption) (by decide) (by rw [hz12]; omega) dX8_init_136 ?_
  refine z_iincc (c := 1) (lv' := [_, _]) F dX8_init_137 rfl (by decide) (by decide) rfl rfl ?_
  refine z_goto (tgt := 125) F dX8_init_140 (by decide) ?_
  refine z_iload_n F dX8_init_125 rfl ?_
  refine z_iconst (v := 4) F dX8_init_126 (by decide) ?_
  refine z_ic_ge (tgt := 143) F dX8_init_127 (by decide) (fun h_127x => absurd h_127x (by decide)) (fun h_127x => ?_)
  refine z_aload_n F dX8_init_130 rfl ?_
  refine zg_X8_lanes F (by with_reducible assumption) fl_X8_43 dX8_init_131 (fun hk_131x => ?_)
  refine z_iload_n F dX8_init_134 rfl ?_
  refine z_iconst (v := (-1)) F dX8_init_135 (by decide) ?_
  refine z_iast10n (q := 1) F (by with_reducible assumption) (by decide) (by rw [hz12]; omega) dX8_init_136 ?_
  refine z_iincc (c := 1) (lv' := [_, _]) F dX8_init_137 rfl (by decide) (by decide) rfl rfl ?_
  refine z_goto (tgt := 125) F dX8_init_140 (by decide) ?_
  refine z_iload_n F dX8_init_125 rfl ?_
  refine z_iconst (v := 4) F dX8_init_126 (by decide) ?_
  refine z_ic_ge (tgt := 143) F dX8_init_127 (by decide) (fun h_127xx => absurd h_127xx (by decide)) (fun h_127xx => ?_)
  refine z_aload_n F dX8_init_130 rfl ?_
  refine zg_X8_lanes F (by with_reducible assumption) fl_X8_43 dX8_init_131 (fun hk_131xx => ?_)
  refine z_iload_n F dX8_init_134 rfl ?_
  refine z_iconst (v := (-1)) F dX8_init_135 (by decide) ?_
  refine z_iast10n (q := 2) F (by with_reducible assumption) (by decide) (by rw [hz12]; omega) dX8_init_136 ?_
  refine z_iincc (c := 1) (lv' := [_, _]) F dX8_init_137 rfl (by decide) (by decide) rfl rfl ?_
  refine z_goto (tgt := 125) F dX8_init_140 (by decide) ?_
  refine z_iload_n F dX8_init_125 rfl ?_
  refine z_iconst (v := 4) F dX8_init_126 (by decide) ?_
  refine z_ic_ge (tgt := 143) F dX8_init_127 (by decide) (fun h_127xxx => absurd h_127xxx (by decide)) (fun h_127xxx => ?_)
  refine z_aload_n F dX8_init_130 rfl ?_
  refine zg_X8_lanes F (by with_reducible assumption) fl_X8_43 dX8_init_131 (fun hk_131xxx => ?_)
  refine z_iload_n F dX8_init_134 rfl ?_
  refine z_iconst (v := (-1)) F dX8_init_135 (by decide) ?_
  refine z_iast10n (q := 3) F (by with_reducible assumption) (by decide) (by rw [hz12]; omega) dX8_init_136 ?_
  refine z_iincc (c := 1) (lv' := [_, _]) F dX8_init_137 rfl (by decide) (by decide) rfl rfl ?_
  refine z_goto (tgt := 125) F dX8_init_140 (by decide) ?_
  refine z_iload_n F dX8_init_125 rfl ?_
  refine z_iconst (v := 4) F dX8_init_126 (by decide) ?_
  refine z_ic_ge (tgt := 143) F dX8_init_127 (by decide) (fun h_127xxxx => ?_) (fun h_127xxxx => absurd h_127xxxx (by decide))
  refine z_aload_n F dX8_init_143 rfl ?_
  refine z_bipush (v := (-4)) F dX8_init_144 (by decide) ?_
  refine zp_X8_well F (by with_reducible assumption) fl_X8_56 dX8_init_146 ?_
  refine z_aload_n F dX8_init_149 rfl ?_
  refine z_bipush (v := 99) F dX8_init_150 (by decide) ?_
  refine zp_X8_heed F (by with_reducible assumption) fl_X8_60 dX8_init_152 ?_
  refine z_aload_n F dX8_init_155 rfl ?_
  refine z_callVv F (c_X8_starts J hk rfl) zm_X8_starts zv_X8_starts ml_X8_63 (by with_reducible assumption) (by decide) rfl rfl rfl (Nat.le_of_ble_eq_true rfl) dX8_init_156 (by omega) (fun M_156 h_156 => ?_)
  replace h_156 := Eq.symm h_156
  subst h_156
  exact K _
set_option maxHeartbeats 4000000 in
theorem c_X8_init {l : Launch} {D : va_G} {cA : Nat → ClassId} {sz a b : Nat} {f : Nat → va_E} : Met l yX8_init (.code yX8_init cX8_init 2 none :: zTb) (bR 2 15 671) (p8 D cA sz a b f) (q8 D cA sz a b) 15 671 (bA sz) := by
  refine Met.ofW (cc := cX8_init) (maxL := 2) (ret := none) zm_X8_init.1 rfl ?_
  intro p e s m ar below meth c s₁ B hml hv
  obtain ⟨rfl, hz, hP, hK, hX, hT⟩ := hv
  have hts := atoms_spec (ws := Cond.code yX8_init cX8_init 2 none :: zTb) B.pre
  have hl := lv_entry [Value.ref (sz + 138)] (n := 2) (Nat.le_of_ble_eq_true rfl)
  rw [lg_entry_eq]
  have hI : meth.name = "<init>" := (name_of_methodNamed B.named B.method).1
  have hw : ∀ q ∈ zTb, q.before [Value.ref (sz + 138)].toArray s = true := fun q hq => hts q (List.mem_cons_of_mem _ hq)
  have hown := findClass_of_methodNamed B.named
  suffices Z : ∀ g : zG, g = ((p, l, e, bR 2 15 671), (s, m, [Value.ref (sz + 138)].toArray, below), (meth, c, 15, 671), (bA sz, MQ below (q8 D cA sz a b) [Value.ref (sz + 138)].toArray s 15 671 (bA sz))) → BW (zw D cA sz a b) sz 139 g 2 0 [some (.ref (sz + 138)), none] [] (va_up (tX7 (zw D cA sz a b) sz 0 f) 138 (.inr (8, d8L))) 0 0 from Z _ rfl s.heap [] _ hl hP va_S.rf
  intro g hg
  have F : bF (zw D cA sz a b) sz 139 g RX8 cX8_init 2 2 := by
    subst hg
    exact ⟨B.exec, B.bytes, hml, hown, hw, B.notSynchronized, hK, hz, Nat.le_refl _, Nat.le_refl _, hX⟩
  have F2 : zF (zw D cA sz a b) g RX8 cX8_init 2 2 := by
    subst hg
    exact ⟨B.exec, B.bytes, hml, hown, hw, B.notSynchronized, hK, zw_J, fun i hi => zw_A hi, Nat.le_refl _, Nat.le_refl _, Nat.le_refl _, Nat.le_refl _, hT⟩
  have hR : g.1.2.2.2 = bR 2 15 671 := by subst hg; rfl
  have hI : g.2.2.1.1.name = "<init>" := by subst hg; exact hI
  refine b_aload F dX8_init_0 rfl ?_
  refine b_obj F bo_X8 bo_1 bo_2 dX8_init_1 (by decide) ?_
  refine b_aload F dX8_init_4 rfl ?_
  refine b_bipush (v := 40) F dX8_init_5 (by decide) ?_
  refine b_newa (N' := 40) (atype := .int) (ty := .int) (a0 := (40, .inl (fun _ => 0))) (t0 := 1) (j := 139) F ba_int rfl id (fun _ h => h) rfl (fun _ => rfl) (by decide) (by decide) (by decide) (by rw [hR]; show 0 + 1 ≤ 15; decide) (by rw [hR]; show 0 + 40 ≤ 671; decide) (by decide) dX8_init_7 ?_
  refine b_putF (i := 138) (j := 2) F hI (by decide) (((va_up_ne _ _ (show 138 ≠ 139 by decide)).trans (va_up_self _ _ _))) rfl izX8 tyX8_ok nmX8 (by decide) rfl rfl fl_X8_7 rfl rfl rfl (Nat.le_of_ble_eq_true rfl) dX8_init_9 ?_
  refine b_aload F dX8_init_12 rfl ?_
  refine b_bipush (v := 16) F dX8_init_13 (by decide) ?_
  refine b_newa (N' := 16) (atype := .int) (ty := .int) (a0 := (16, .inl (fun _ => 0))) (t0 := 1) (j := 140) F ba_int rfl id (fun _ h => h) rfl (fun _ => rfl) (by decide) (by decide) (by decide) (by rw [hR]; show 1 + 1 ≤ 15; decide) (by rw [hR]; show 40 + 16 ≤ 671; decide) (by decide) dX8_init_15 ?_
  refine b_putF (i := 138) (j := 3) F hI (by decide) (((va_up_ne _ _ (show 138 ≠ 140 by decide)).trans (va_up_self _ _ _))) rfl izX8 tyX8_ok nmX8 (by decide) rfl rfl fl_X8_13 rfl rfl rfl (Nat.le_of_ble_eq_true rfl) dX8_init_17 ?_
  refine b_aload F dX8_init_20 rfl ?_
  refine b_bipush (v := 14) F dX8_init_21 (by decide) ?_
  refine b_newa (N' := 14) (atype := .int) (ty := .int) (a0 := (14, .inl (fun _ => 0))) (t0 := 1) (j := 141) F ba_int rfl id (fun _ h => h) rfl (fun _ => rfl) (by decide) (by decide) (by decide) (by rw [hR]; show 2 + 1 ≤ 15; decide) (by rw [hR]; show 56 + 14 ≤ 671; decide) (by decide) dX8_init_23 ?_
  refine b_putF (i := 138) (j := 4) F hI (by decide) (((va_up_ne _ _ (show 138 ≠ 141 by decide)).trans (va_up_self _ _ _))) rfl izX8 tyX8_ok nmX8 (by decide) rfl rfl fl_X8_16 rfl rfl rfl (Nat.le_of_ble_eq_true rfl) dX8_init_25 ?_
  refine b_aload F dX8_init_28 rfl ?_
  refine b_bipush (v := 120) F dX8_init_29 (by decide) ?_
  refine b_newa (N' := 120) (atype := .int) (ty := .int) (a0 := (120, .inl (fun _ => 0))) (t0 := 1) (j := 142) F ba_int rfl id (fun _ h => h) rfl (fun _ => rfl) (by decide) (by decide) (by decide) (by rw [hR]; show 3 + 1 ≤ 15; decide) (by rw [hR]; show 70 + 120 ≤ 671; decide) (by decide) dX8_init_31 ?_
  refine b_putF (i := 138) (j := 9) F hI (by decide) (((va_up_ne _ _ (show 138 ≠ 142 by decide)).trans (va_up_self _ _ _))) rfl izX8 tyX8_ok nmX8 (by decide) rfl rfl fl_X8_19 rfl rfl rfl (Nat.le_of_ble_eq_true rfl) dX8_init_33 ?_
  refine b_aload F dX8_init_36 rfl ?_
  refine b_bipush (v := 40) F dX8_init_37 (by decide) ?_
  refine b_newa (N' := 40) (atype := .int) (ty := .int) (a0 := (40, .inl (fun _ => 0))) (t0 := 1) (j := 143) F ba_int rfl id (fun _ h => h) rfl (fun _ => rfl) (by decide) (by decide) (by decide) (by rw [hR]; show 4 + 1 ≤ 15; decide) (by rw [hR]; show 190 + 40 ≤ 671; decide) (by decide) dX8_init_39 ?_
  refine b_putF (i := 138) (j := 16) F hI (by decide) (((va_up_ne _ _ (show 138 ≠ 143 by decide)).trans (va_up_self _ _ _))) rfl izX8 tyX8_ok nmX8 (by decide) rfl rfl fl_X8_22 rfl rfl rfl (Nat.le_of_ble_eq_true rfl) dX8_init_41 ?_
  refine b_aload F dX8_init_44 rfl ?_
  refine b_bipush (v := 24) F dX8_init_45 (by decide) ?_
  refine b_newa (N' := 24) (atype := .int) (ty := .int) (a0 := (24, .inl (fun _ => 0))) (t0 := 1) (j := 144) F ba_int rfl id (fun _ h => h) rfl (fun _ => rfl) (by decide) (by decide) (by decide) (by rw [hR]; show 5 + 1 ≤ 15; decide) (by rw [hR]; show 230 + 24 ≤ 671; decide) (by decide) dX8_init_47 ?_
  refine b_putF (i := 138) (j := 17) F hI (by decide) (((va_up_ne _ _ (show 138 ≠ 144 by decide)).trans (va_up_self _ _ _))) rfl izX8 tyX8_ok nmX8 (by decide) rfl rfl fl_X8_25 rfl rfl rfl (Nat.le_of_ble_eq_true rfl) dX8_init_49 ?_
  refine b_aload F dX8_init_52 rfl ?_
  refine b_bipush (v := 112) F dX8_init_53 (by decide) ?_
  refine b_newa (N' := 112) (atype := .int) (ty := .int) (a0 := (112, .inl (fun _ => 0))) (t0 := 1) (j := 145) F ba_int rfl id (fun _ h => h) rfl (fun _ => rfl) (by decide) (by decide) (by decide) (by rw [hR]; show 6 + 1 ≤ 15; decide) (by rw [hR]; show 254 + 112 ≤ 671; decide) (by decide) dX8_init_55 ?_
  refine b_putF (i := 138) (j := 19) F hI (by decide) (((va_up_ne _ _ (show 138 ≠ 145 by decide)).trans (va_up_self _ _ _))) rfl izX8 tyX8_ok nmX8 (by decide) rfl rfl fl_X8_28 rfl rfl rfl (Nat.le_of_ble_eq_true rfl) dX8_init_57 ?_
  refine b_aload F dX8_init_60 rfl ?_
  refine b_bipush (v := 14) F dX8_init_61 (by decide) ?_
  refine b_newa (N' := 14) (atype := .int) (ty := .int) (a0 := (14, .inl (fun _ => 0))) (t0 := 1) (j := 146) F ba_int rfl id (fun _ h => h) rfl (fun _ => rfl) (by decide) (by decide) (by decide) (by rw [hR]; show 7 + 1 ≤ 15; decide) (by rw [hR]; show 366 + 14 ≤ 671; decide) (by decide) dX8_init_63 ?_
  refine b_putF (i := 138) (j := 21) F hI (by decide) (((va_up_ne _ _ (show 138 ≠ 146 by decide)).trans (va_up_self _ _ _))) rfl izX8 tyX8_ok nmX8 (by decide) rfl rfl fl_X8_31 rfl rfl rfl (Nat.le_of_ble_eq_true rfl) dX8_init_65 ?_
  refine b_aload F dX8_init_68 rfl ?_
  refine b_bipush (v := 8) F dX8_init_69 (by decide) ?_
  refine b_newa (N' := 8) (atype := .int) (ty := .int) (a0 := (8, .inl (fun _ => 0))) (t0 := 1) (j := 147) F ba_int rfl id (fun _ h => h) rfl (fun _ => rfl) (by decide) (by decide) (by decide) (by rw [hR]; show 8 + 1 ≤ 15; decide) (by rw [hR]; show 380 + 8 ≤ 671; decide) (by decide) dX8_init_71 ?_
  refine b_putF (i := 138) (j := 22) F hI (by decide) (((va_up_ne _ _ (show 138 ≠ 147 by decide)).trans (va_up_self _ _ _))) rfl izX8 tyX8_ok nmX8 (by decide) rfl rfl fl_X8_34 rfl rfl rfl (Nat.le_of_ble_eq_true rfl) dX8_init_73 ?_
  refine b_aload F dX8_init_76 rfl ?_
  refine b_bipush (v := 8) F dX8_init_77 (by decide) ?_
  refine b_newa (N' := 8) (atype := .int) (ty := .int) (a0 := (8, .inl (fun _ => 0))) (t0 := 1) (j := 148) F ba_int rfl id (fun _ h => h) rfl (fun _ => rfl) (by decide) (by decide) (by decide) (by rw [hR]; show 9 + 1 ≤ 15; decide) (by rw [hR]; show 388 + 8 ≤ 671; decide) (by decide) dX8_init_79 ?_
  refine b_putF (i := 138) (j := 23) F hI (by decide) (((va_up_ne _ _ (show 138 ≠ 148 by decide)).trans (va_up_self _ _ _))) rfl izX8 tyX8_ok nmX8 (by decide) rfl rfl fl_X8_37 rfl rfl rfl (Nat.le_of_ble_eq_true rfl) dX8_init_81 ?_
  refine b_aload F dX8_init_84 rfl ?_
  refine b_sipush (v := 187) F dX8_init_85 (by decide) ?_
  refine b_newa (N' := 187) (atype := .int) (ty := .int) (a0 := (187, .inl (fun _ => 0))) (t0 := 1) (j := 149) F ba_int rfl id (fun _ h => h) rfl (fun _ => rfl) (by decide) (by decide) (by decide) (by rw [hR]; show 10 + 1 ≤ 15; decide) (by rw [hR]; show 396 + 187 ≤ 671; decide) (by decide) dX8_init_88 ?_
  refine b_putF (i := 138) (j := 24) F hI (by decide) (((va_up_ne _ _ (show 138 ≠ 149 by decide)).trans (va_up_self _ _ _))) rfl izX8 tyX8_ok nmX8 (by decide) rfl rfl fl_X8_40 rfl rfl rfl (Nat.le_of_ble_eq_true rfl) dX8_init_90 ?_
  refine b_aload F dX8_init_93 rfl ?_
  refine b_iconst (v := 4) F dX8_init_94 (by decide) ?_
  refine b_newa (N' := 4) (atype := .int) (ty := .int) (a0 := (4, .inl (fun _ => 0))) (t0 := 1) (j := 150) F ba_int rfl id (fun _ h => h) rfl (fun _ => rfl) (by decide) (by decide) (by decide) (by rw [hR]; show 11 + 1 ≤ 15; decide) (by rw [hR]; show 583 + 4 ≤ 671; decide) (by decide) dX8_init_95 ?_
  refine b_putF (i := 138) (j := 26) F hI (by decide) (((va_up_ne _ _ (show 138 ≠ 150 by decide)).trans (va_up_self _ _ _))) rfl izX8 tyX8_ok nmX8 (by decide) rfl rfl fl_X8_43 rfl rfl rfl (Nat.le_of_ble_eq_true rfl) dX8_init_97 ?_
  refine b_aload F dX8_init_100 rfl ?_
  refine b_iconst (v := 4) F dX8_init_101 (by decide) ?_
  refine b_newa (N' := 4) (atype := .int) (ty := .int) (a0 := (4, .inl (fun _ => 0))) (t0 := 1) (j := 151) F ba_int rfl id (fun _ h => h) rfl (fun _ => rfl) (by decide) (by decide) (by decide) (by rw [hR]; show 12 + 1 ≤ 15; decide) (by rw [hR]; show 587 + 4 ≤ 671; decide) (by decide) dX8_init_102 ?_
  refine b_putF (i := 138) (j := 27) F hI (by decide) (((va_up_ne _ _ (show 138 ≠ 151 by decide)).trans (va_up_self _ _ _))) rfl izX8 tyX8_ok nmX8 (by decide) rfl rfl fl_X8_46 rfl rfl rfl (Nat.le_of_ble_eq_true rfl) dX8_init_104 ?_
  refine b_aload F dX8_init_107 rfl ?_
  refine b_bipush (v := 64) F dX8_init_108 (by decide) ?_
  refine b_newa (N' := 64) (atype := .long) (ty := .long) (a0 := (64, .inr (.inl (fun _ => 0)))) (t0 := 2) (j := 152) F ba_long rfl id (fun _ h => h) rfl (fun _ => rfl) (by decide) (by decide) (by decide) (by rw [hR]; show 13 + 1 ≤ 15; decide) (by rw [hR]; show 591 + 64 ≤ 671; decide) (by decide) dX8_init_110 ?_
  refine b_putF (i := 138) (j := 28) F hI (by decide) (((va_up_ne _ _ (show 138 ≠ 152 by decide)).trans (va_up_self _ _ _))) rfl izX8 tyX8_ok nmX8 (by decide) rfl rfl fl_X8_49 rfl rfl rfl (Nat.le_of_ble_eq_true rfl) dX8_init_112 ?_
  refine b_aload F dX8_init_115 rfl ?_
  refine b_bipush (v := 16) F dX8_init_116 (by decide) ?_
  refine b_newa (N' := 16) (atype := .long) (ty := .long) (a0 := (16, .inr (.inl (fun _ => 0)))) (t0 := 2) (j := 153) F ba_long rfl id (fun _ h => h) rfl (fun _ => rfl) (by decide) (by decide) (by decide) (by rw [hR]; show 14 + 1 ≤ 15; decide) (by rw [hR]; show 655 + 16 ≤ 671; decide) (by decide) dX8_init_118 ?_
  refine b_putF (i := 138) (j := 29) F hI (by decide) (((va_up_ne _ _ (show 138 ≠ 153 by decide)).trans (va_up_self _ _ _))) rfl izX8 tyX8_ok nmX8 (by decide) rfl rfl fl_X8_53 rfl rfl rfl (Nat.le_of_ble_eq_true rfl) dX8_init_120 ?_
  intro H locs ls hl hP hS
  have hS2 : va_S g.2.2.2.1 g.2.1.1.heap H locs := by subst hg; exact hS
  have hc : g.2.2.1.2.2.1 = 15 ∧ g.2.2.1.2.2.2 = 671 := by subst hg; exact ⟨rfl, rfl⟩
  have Q := t8_walk F2 zw_J (fun lv H locs ls hl hP hS => by
    subst hg
    exact W.vret B.exec B.bytes B.returns (fun t ht hW => ⟨⟨M1, rfl, rfl, by show zP _ M1 t.heap; rw [ht]; exact hP⟩, hS.F ht⟩) hS.2.2 dX8_init_159 B.notSynchronized) H locs ls hl (fun i hi => zal_154 hP i hi) hS2
  rw [hc.1, hc.2] at Q
  exact Q
