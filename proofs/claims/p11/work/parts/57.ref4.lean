theorem cpF_up (f h : zF1) (k : Nat) {v : Int32} (hv : v = h k) : va_up (cpF k f h) k v = cpF (k + 1) f h := by
  funext q
  unfold va_up cpF
  by_cases e : q = k
  · subst e
    rw [if_pos rfl, if_pos (by omega), hv]
  · rw [if_neg e]
    by_cases e2 : q < k
    · exact (if_pos e2).trans (if_pos (show q < k + 1 by omega)).symm
    · exact (if_neg e2).trans (if_neg (show ¬ q < k + 1 by omega)).symm
theorem cpF_0 (f h : zF1) : cpF 0 f h = f := funext fun q => if_neg (Nat.not_lt_zero q)
/-- a row of the reference: what lies beyond its end may be taken as one likes -/
theorem zP_10 {w : zE} {M : zM} {H : Heap} {i : Nat} {f : zF1} (hk : zk i = 10) (h : zP w M H) (e : ∀ j, j < zn i → f j = M.1 i j) : zP w (za M i f) H := by
  intro q hq
  by_cases hqi : q = i
  · subst hqi
    have h1 := h q hq
    unfold zc at h1 ⊢
    rw [hk] at h1 ⊢
    exact zat_10 (fun j hj => by rw [za_at]; exact e j hj) h1
  · rw [show zc w (za M i f) q = zc w M q from za_other (i := i) (w := w) (by have := zk_i hk (by decide); exact this) (fun o _ => by rw [hk]; rfl) q hq hqi]
    exact h q hq
theorem z_10 {w : zE} {g : zG} {nL pc : Nat} {lv : List (Option Value)} {st : List Value} {M : zM} {i : Nat} {f : zF1} (hk : zk i = 10) (e : ∀ j, j < zn i → f j = M.1 i j) (k : ZW w g nL pc lv st (za M i f)) : ZW w g nL pc lv st M := fun H locs ls hl hP hS => k H locs ls hl (zP_10 hk hP e) hS
theorem c_X8_asides {l : Launch} {w : zE} (J : zJ w) {M : zM} {o : Nat} (hk : zk o = 8) (ho : o = 138) : zCv l w yX8_asides cX8_asides 2 0 [.ref (w.2.2 o)] M (fun M2 => M2 = za M (o + 8) (M.1 (o + 3))) := by
  obtain ⟨hz1, hz2, hz3, hz4, hz5, hz6, hz7, hz8, hz9, hz10, hz11, hz12, hz13, hz14, hz15⟩ := zn8 ho
  have k8 := zkf8 o (zk_i hk (by decide)) hk
  have e3 : ∀ f, (za M (o + 8) f).1 (o + 3) = M.1 (o + 3) := fun f => za_off _ (by omega)
  refine zCv_of J zm_X8_asides [some (.ref (w.2.2 o)), none] (Nat.le_of_ble_eq_true rfl) rfl (fun g hg F X => ?_)
  subst hg
  have key : ∀ (j k : Nat), k + j = 14 → ZW w g 2 2 [some (.ref (w.2.2 o)), some (.int (nI k))] [] (za M (o + 8) (cpF k (M.1 (o + 8)) (M.1 (o + 3)))) := by
    intro j
    induction j with
    | zero =>
      intro k hkj
      have e : k = 14 := by omega
      subst e
      refine z_10 (i := o + 8) (f := M.1 (o + 3)) k8.2.2.2.2.2.2.2.1 (fun j hj => ?_) ?_
      · rw [hz8] at hj
        rw [za_at]
        exact (if_pos hj).symm
      rw [za_za]
      refine z_iload_n F dX8_asides_2 rfl ?_
      refine z_bipush (v := 14) F dX8_asides_3 (by decide) ?_
      refine z_ic_ge (tgt := 26) F dX8_asides_5 (by decide) (fun h_5 => ?_) (fun h_5 => absurd h_5 (by decide))
      refine z_vret F X dX8_asides_26 ?_
      rfl
    | succ j ih =>
      intro k hkj
      have ih2 := ih (k + 1) (by omega)
      rw [← nI_1, ← cpF_up _ _ _ rfl] at ih2
      refine z_iload_n F dX8_asides_2 rfl ?_
      refine z_bipush (v := 14) F dX8_asides_3 (by decide) ?_
      refine z_ic_ge (tgt := 26) F dX8_asides_5 (by decide) (fun h_5 => absurd h_5 (nle (nI_lt (b := 14) (by omega) (by decide)))) (fun h_5 => ?_)
      refine z_aload_n F dX8_asides_8 rfl ?_
      refine zg_X8_aside F (by with_reducible assumption) fl_X8_31 dX8_asides_9 (fun hk_9 => ?_)
      refine z_iload_n F dX8_asides_12 rfl ?_
      refine z_aload_n F dX8_asides_13 rfl ?_
      refine zg_X8_now F (by with_reducible assumption) fl_X8_16 dX8_asides_14 (fun hk_14 => ?_)
      refine z_iload_n F dX8_asides_17 rfl ?_
      refine z_iald10n (q := k) F (by with_reducible assumption) (by first | with_reducible rfl | (simp only [n4, n2, n3, n5, n14, n16, na1, na2, na3, nI_add, nI_1, nI_pred]; done) | (simp only [n4, n2, n3, n5, n14, n16, na1, na2, na3, nI_add, nI_1, nI_pred, Nat.add_assoc, Nat.add_comm, Nat.add_left_comm]; done)) (by rw [hz3]; omega) dX8_asides_18 ?_
      try simp only [e3]
      refine z_iast10n (q := k) F (by with_reducible assumption) (by first | with_reducible rfl | (simp only [n4, n2, n3, n5, n14, n16, na1, na2, na3, nI_add, nI_1, nI_pred]; done) | (simp only [n4, n2, n3, n5, n14, n16, na1, na2, na3, nI_add, nI_1, nI_pred, Nat.add_assoc, Nat.add_comm, Nat.add_left_comm]; done)) (by rw [hz8]; omega) dX8_asides_19 ?_
      refine z_iincc (c := 1) (lv' := [_, _]) F dX8_asides_20 rfl (by decide) (by decide) rfl rfl ?_
      refine z_goto (tgt := 2) F dX8_asides_23 (by decide) ?_
      rw [zs_za, za_at, za_za]
      exact ih2
  have k0 := key 14 0 (by omega)
  rw [cpF_0, za_self] at k0
  refine z_iconst (v := 0) F dX8_asides_0 (by decide) ?_
  refine z_istore_n (lv' := [_, _]) F dX8_asides_1 (by decide) rfl rfl ?_
  exact k0
theorem c_X8_backs {l : Launch} {w : zE} (J : zJ w) {M : zM} {o : Nat} (hk : zk o = 8) (ho : o = 138) : zCv l w yX8_backs cX8_backs 2 0 [.ref (w.2.2 o)] M (fun M2 => M2 = zs (zs (za M (o + 3) (M.1 (o + 8))) o 7 (-4)) o 8 0) := by
  obtain ⟨hz1, hz2, hz3, hz4, hz5, hz6, hz7, hz8, hz9, hz10, hz11, hz12, hz13, hz14, hz15⟩ := zn8 ho
  have k8 := zkf8 o (zk_i hk (by decide)) hk
  have e3 : ∀ f, (za M (o + 3) f).1 (o + 8) = M.1 (o + 8) := fun f => za_off _ (by omega)
  refine zCv_of J zm_X8_backs [some (.ref (w.2.2 o)), none] (Nat.le_of_ble_eq_true rfl) rfl (fun g hg F X => ?_)
  subst hg
  have key : ∀ (j k : Nat), k + j = 14 → ZW w g 2 2 [some (.ref (w.2.2 o)), some (.int (nI k))] [] (za M (o + 3) (cpF k (M.1 (o + 3)) (M.1 (o + 8)))) := by
    intro j
    induction j with
    | zero =>
      intro k hkj
      have e : k = 14 := by omega
      subst e
      refine z_10 (i := o + 3) (f := M.1 (o + 8)) k8.2.2.1 (fun j hj => ?_) ?_
      · rw [hz3] at hj
        rw [za_at]
        exact (if_pos hj).symm
      rw [za_za]
      refine z_iload_n F dX8_backs_2 rfl ?_
      refine z_bipush (v := 14) F dX8_backs_3 (by decide) ?_
      refine z_ic_ge (tgt := 26) F dX8_backs_5 (by decide) (fun h_5 => ?_) (fun h_5 => absurd h_5 (by decide))
      refine z_aload_n F dX8_backs_26 rfl ?_
      refine z_bipush (v := (-4)) F dX8_backs_27 (by decide) ?_
      refine zp_X8_more F (by with_reducible assumption) fl_X8_186 dX8_backs_29 ?_
      refine z_aload_n F dX8_backs_32 rfl ?_
      refine z_iconst (v := 0) F dX8_backs_33 (by decide) ?_
      refine zp_X8_tossed F (by with_reducible assumption) fl_X8_163 dX8_backs_34 ?_
      refine z_vret F X dX8_backs_37 ?_
      rfl
    | succ j ih =>
      intro k hkj
      have ih2 := ih (k + 1) (by omega)
      rw [← nI_1, ← cpF_up _ _ _ rfl] at ih2
      refine z_iload_n F dX8_backs_2 rfl ?_
      refine z_bipush (v := 14) F dX8_backs_3 (by decide) ?_
      refine z_ic_ge (tgt := 26) F dX8_backs_5 (by decide) (fun h_5 => absurd h_5 (nle (nI_lt (b := 14) (by omega) (by decide)))) (fun h_5 => ?_)
      refine z_aload_n F dX8_backs_8 rfl ?_
      refine zg_X8_now F (by with_reducible assumption) fl_X8_16 dX8_backs_9 (fun hk_9 => ?_)
      refine z_iload_n F dX8_backs_12 rfl ?_
      refine z_aload_n F dX8_backs_13 rfl ?_
      refine zg_X8_aside F (by with_reducible assumption) fl_X8_31 dX8_backs_14 (fun hk_14 => ?_)
      refine z_iload_n F dX8_backs_17 rfl ?_
      refine z_iald10n (q := k) F (by with_reducible assumption) (by first | with_reducible rfl | (simp only [n4, n2, n3, n5, n14, n16, na1, na2, na3, nI_add, nI_1, nI_pred]; done) | (simp only [n4, n2, n3, n5, n14, n16, na1, na2, na3, nI_add, nI_1, nI_pred, Nat.add_assoc, Nat.add_comm, Nat.add_left_comm]; done)) (by rw [hz8]; omega) dX8_backs_18 ?_
      try simp only [e3]
      refine z_iast10n (q := k) F (by with_reducible assumption) (by first | with_reducible rfl | (simp only [n4, n2, n3, n5, n14, n16, na1, na2, na3, nI_add, nI_1, nI_pred]; done) | (simp only [n4, n2, n3, n5, n14, n16, na1, na2, na3, nI_add, nI_1, nI_pred, Nat.add_assoc, Nat.add_comm, Nat.add_left_comm]; done)) (by rw [hz3]; omega) dX8_backs_19 ?_
      refine z_iincc (c := 1) (lv' := [_, _]) F dX8_backs_20 rfl (by decide) (by decide) rfl rfl ?_
      refine z_goto (tgt := 2) F dX8_backs_23 (by decide) ?_
      rw [zs_za, za_at, za_za]
      exact ih2
  have k0 := key 14 0 (by omega)
  rw [cpF_0, za_self] at k0
  refine z_iconst (v := 0) F dX8_backs_0 (by decide) ?_
  refine z_istore_n (lv' := [_, _]) F dX8_backs_1 (by decide) rfl rfl ?_
  exact k0
/-- the known milestones with one more -/
def shfF (U : zF1) (k : Nat) : zF1 := fun q => if q < k then U (q + 14) else U q
def rowU (U T : zF1) (u k : Nat) : zF1 := fun q => if 14 * u ≤ q ∧ q < 14 * u + k then T (q - 14 * u) else U q
def notU (U T : zF1) (u : Nat) : zF1 := if u = 8 then rowU (shfF U 98) T 7 14 else rowU U T u 14
def notN (u : Nat) : Nat := if u = 8 then 8 else u + 1
theorem shfF_up (U : zF1) (k : Nat) {v : Int32} (hv : v = U (k + 14)) : va_up (shfF U k) k v = shfF U (k + 1) := by
  funext q
  unfold va_up shfF
  by_cases e : q = k
  · subst e
    rw [if_pos rfl, if_pos (by omega), hv]
  · rw [if_neg e]
    by_cases e2 : q < k
    · exact (if_pos e2).trans (if_pos (show q < k + 1 by omega)).symm
    · exact (if_neg e2).trans (if_neg (show ¬ q < k + 1 by omega)).symm
theorem rowU_up (U T : zF1) (u k : Nat) {v : Int32} (hv : v = T k) : va_up (rowU U T u k) (14 * u + k) v = rowU U T u (k + 1) := by
  funext q
  unfold va_up rowU
  by_cases e : q = 14 * u + k
  · subst e
    rw [if_pos rfl, if_pos (by omega), hv, show 14 * u + k - 14 * u = k by omega]
  · rw [if_neg e]
    by_cases e2 : 14 * u ≤ q ∧ q < 14 * u + k
    · exact (if_pos e2).trans (if_pos (show 14 * u ≤ q ∧ q < 14 * u + (k + 1) by omega)).symm
    · exact (if_neg e2).trans (if_neg (show ¬ (14 * u ≤ q ∧ q < 14 * u + (k + 1)) by omega)).symm
theorem rowU_0 (U T : zF1) (u : Nat) : rowU U T u 0 = U := funext fun q => if_neg (by omega)
theorem c_X8_notes {l : Launch} {w : zE} (J : zJ w) {M : zM} {o u : Nat} (hk : zk o = 8) (ho : o = 138) (hu : M.1 o 20 = nI u) (h8 : u ≤ 8) : zCv l w yX8_notes cX8_notes 2 0 [.ref (w.2.2 o)] M (fun M2 => M2 = zs (za M (o + 7) (notU (M.1 (o + 7)) (M.1 (o + 3)) u)) o 20 (nI (notN u))) := by
  obtain ⟨hz1, hz2, hz3, hz4, hz5, hz6, hz7, hz8, hz9, hz10, hz11, hz12, hz13, hz14, hz15⟩ := zn8 ho
  refine zCv_of J zm_X8_notes [some (.ref (w.2.2 o)), none] (Nat.le_of_ble_eq_true rfl) rfl (fun g hg F X => ?_)
  subst hg
  have key2 : ∀ (M' : zM) (v : Nat), M'.1 o 20 = nI v → v < 8 → zs (za M' (o + 7) (rowU (M'.1 (o + 7)) (M'.1 (o + 3)) v 14)) o 20 (nI (v + 1)) = zs (za M (o + 7) (notU (M.1 (o + 7)) (M.1 (o + 3)) u)) o 20 (nI (notN u)) → ∀ (j k : Nat), k + j = 14 → ZW w g 2 47 [some (.ref (w.2.2 o)), some (.int (nI k))] [] (za M' (o + 7) (rowU (M'.1 (o + 7)) (M'.1 (o + 3)) v k)) := by
    intro M' v hv hv8 he j
    have e3 : ∀ f, (za M' (o + 7) f).1 (o + 3) = M'.1 (o + 3) := fun f => za_off _ (by omega)
    have e0 : ∀ f, (za M' (o + 7) f).1 o = M'.1 o := fun f => za_off _ (by omega)
    induction j with
    | zero =>
      intro k hkj
      have e : k = 14 := by omega
      subst e
      refine z_iload_n F dX8_notes_47 rfl ?_
      refine z_bipush (v := 14) F dX8_notes_48 (by decide) ?_
      refine z_ic_ge (tgt := 79) F dX8_notes_50 (by decide) (fun h_50 => ?_) (fun h_50 => absurd h_50 (by decide))
      refine z_aload_n F dX8_notes_79 rfl ?_
      refine z_dup F dX8_notes_80 rfl ?_
      refine zg_X8_undos F (by with_reducible assumption) fl_X8_66 dX8_notes_81 ?_
      try simp only [e0, hv]
      refine z_iconst (v := 1) F dX8_notes_84 (by decide) ?_
      refine z_iadd F dX8_notes_85 ?_
      refine zp_X8_undos F (by with_reducible assumption) fl_X8_66 dX8_notes_86 ?_
      refine z_vret F X dX8_notes_89 ?_
      rw [nI_1]
      exact he
    | succ j ih =>
      intro k hkj
      have ih2 := ih (k + 1) (by omega)
      rw [← nI_1, ← rowU_up _ _ _ _ rfl] at ih2
      refine z_iload_n F dX8_notes_47 rfl ?_
      refine z_bipush (v := 14) F dX8_notes_48 (by decide) ?_
      refine z_ic_ge (tgt := 79) F dX8_notes_50 (by decide) (fun h_50 => absurd h_50 (nle (nI_lt (b := 14) (by omega) (by decide)))) (fun h_50 => ?_)
      refine z_aload_n F dX8_notes_53 rfl ?_
      refine zg_X8_undone F (by with_reducible assumption) fl_X8_28 dX8_notes_54 (fun hk_54 => ?_)
      refine z_bipush (v := 14) F dX8_notes_57 (by decide) ?_
      refine z_aload_n F dX8_notes_59 rfl ?_
      refine zg_X8_undos F (by with_reducible assumption) fl_X8_66 dX8_notes_60 ?_
      try simp only [e3, e0, hv]
      refine z_imul F dX8_notes_63 ?_
      refine z_iload_n F dX8_notes_64 rfl ?_
      refine z_iadd F dX8_notes_65 ?_
      refine z_aload_n F dX8_notes_66 rfl ?_
      refine zg_X8_now F (by with_reducible assumption) fl_X8_16 dX8_notes_67 (fun hk_67 => ?_)
      refine z_iload_n F dX8_notes_70 rfl ?_
      refine z_iald10n (q := k) F (by with_reducible assumption) (by first | with_reducible rfl | (simp only [n4, n2, n3, n5, n14, n16, na1, na2, na3, nI_add, nI_1, nI_pred]; done) | (simp only [n4, n2, n3, n5, n14, n16, na1, na2, na3, nI_add, nI_1, nI_pred, Nat.add_assoc, Nat.add_comm, Nat.add_left_comm]; done)) (by rw [hz3]; omega) dX8_notes_71 ?_
      try simp only [e3, e0, hv]
      refine z_iast10n (q := ((14 * v) + k)) F (by with_reducible assumption) (by first | with_reducible rfl | (simp only [n4, n2, n3, n5, n14, n16, na1, na2, na3, nI_add, nI_1, nI_pred]; done) | (simp only [n4, n2, n3, n5, n14, n16, na1, na2, na3, nI_add, nI_1, nI_pred, Nat.add_assoc, Nat.add_comm, Nat.add_left_comm]; done)) (by rw [hz7]; omega) dX8_notes_72 ?_
      refine z_iincc (c := 1) (lv' := [_, _]) F dX8_notes_73 rfl (by decide) (by decide) rfl rfl ?_
      refine z_goto (tgt := 47) F dX8_notes_76 (by decide) ?_
      rw [zs_za, za_at, za_za]
      exact ih2
  have start2 : ∀ (M' : zM) (v : Nat), M'.1 o 20 = nI v → v < 8 → zs (za M' (o + 7) (rowU (M'.1 (o + 7)) (M'.1 (o + 3)) v 14)) o 20 (nI (v + 1)) = zs (za M (o + 7) (notU (M.1 (o + 7)) (M.1 (o + 3)) u)) o 20 (nI (notN u)) → ZW w g 2 47 [some (.ref (w.2.2 o)), some (.int (nI 0))] [] M' := by
    intro M' v a b c
    have k0 := key2 M' v a b c 14 0 (by omega)
    rw [rowU_0, za_self] at k0
    exact k0
  have key1 : u = 8 → ∀ (j k : Nat), k + j = 98 → ZW w g 2 12 [some (.ref (w.2.2 o)), some (.int (nI (k + 14)))] [] (za M (o + 7) (shfF (M.1 (o + 7)) k)) := by
    intro hu8 j
    induction j with
    | zero =>
      intro k hkj
      have e : k = 98 := by omega
      subst e
      refine z_iload_n F dX8_notes_12 rfl ?_
      refine z_bipush (v := 112) F dX8_notes_13 (by decide) ?_
      refine z_ic_ge (tgt := 39) F dX8_notes_15 (by decide) (fun h_15 => ?_) (fun h_15 => absurd h_15 (by decide))
      refine z_aload_n F dX8_notes_39 rfl ?_
      refine z_bipush (v := 7) F dX8_notes_40 (by decide) ?_
      refine zp_X8_undos F (by with_reducible assumption) fl_X8_66 dX8_notes_42 ?_
      refine z_iconst (v := 0) F dX8_notes_45 (by decide) ?_
      refine z_istore_n (lv' := [_, _]) F dX8_notes_46 (by decide) rfl rfl ?_
      refine start2 _ 7 (by rw [zs_at, va_up_self]; rfl) (by decide) ?_
      rw [zs_off _ (by omega), zs_off _ (by omega), za_at, za_off _ (by omega)]
      unfold notU notN
      rw [if_pos hu8, if_pos hu8]
      simp only [zs_za]
      rw [za_off _ (show o ≠ o + 7 by omega), za_off _ (show o ≠ o + 7 by omega), za_off _ (show o ≠ o + 7 by omega), za_at, bx_uu, za_swap _ _ _ (show o ≠ o + 7 by omega), za_za, za_za]
    | succ j ih =>
      intro k hkj
      have ih2 := ih (k + 1) (by omega)
      rw [show k + 1 + 14 = k + 14 + 1 by omega, ← nI_1, ← shfF_up _ _ rfl] at ih2
      have r1 : (shfF (M.1 (o + 7)) k) (k + 14) = M.1 (o + 7) (k + 14) := if_neg (by omega)
      have r2 : nI (k + 14) - 14 = nI k := by
        have := pk_sub (a := k + 14) (b := 14) (by omega)
        rw [show k + 14 - 14 = k by omega] at this
        exact this
      refine z_iload_n F dX8_notes_12 rfl ?_
      refine z_bipush (v := 112) F dX8_notes_13 (by decide) ?_
      refine z_ic_ge (tgt := 39) F dX8_notes_15 (by decide) (fun h_15 => absurd h_15 (nle (nI_lt (b := 112) (by omega) (by decide)))) (fun h_15 => ?_)
      refine z_aload_n F dX8_notes_18 rfl ?_
      refine zg_X8_undone F (by with_reducible assumption) fl_X8_28 dX8_notes_19 (fun hk_19 => ?_)
      refine z_iload_n F dX8_notes_22 rfl ?_
      refine z_bipush (v := 14) F dX8_notes_23 (by decide) ?_
      refine z_isub F dX8_notes_25 ?_
      rw [r2]
      refine z_aload_n F dX8_notes_26 rfl ?_
      refine zg_X8_undone F (by with_reducible assumption) fl_X8_28 dX8_notes_27 (fun hk_27 => ?_)
      refine z_iload_n F dX8_notes_30 rfl ?_
      refine z_iald10n (q := (k+14)) F (by with_reducible assumption) (by first | with_reducible rfl | (simp only [n4, n2, n3, n5, n14, n16, na1, na2, na3, nI_add, nI_1, nI_pred]; done) | (simp only [n4, n2, n3, n5, n14, n16, na1, na2, na3, nI_add, nI_1, nI_pred, Nat.add_assoc, Nat.add_comm, Nat.add_left_comm]; done)) (by rw [hz7]; omega) dX8_notes_31 ?_
      try simp only [za_at, r1]
      refine z_iast10n (q := k) F (by with_reducible assumption) (by first | with_reducible rfl | (simp only [n4, n2, n3, n5, n14, n16, na1, na2, na3, nI_add, nI_1, nI_pred]; done) | (simp only [n4, n2, n3, n5, n14, n16, na1, na2, na3, nI_add, nI_1, nI_pred, Nat.add_assoc, Nat.add_comm, Nat.add_left_comm]; done)) (by rw [hz7]; omega) dX8_notes_32 ?_
      refine z_iincc (c := 1) (lv' := [_, _]) F dX8_notes_33 rfl (by decide) (by decide) rfl rfl ?_
      refine z_goto (tgt := 12) F dX8_notes_36 (by decide) ?_
      rw [zs_za, za_at, za_za]
      exact ih2
  refine z_aload_n F dX8_notes_0 rfl ?_
  refine zg_X8_undos F (by with_reducible assumption) fl_X8_66 dX8_notes_1 ?_
  try simp only [hu]
  refine z_bipush (v := 8) F dX8_notes_4 (by decide) ?_
  refine z_ic_ne (tgt := 45) F dX8_notes_6 (by decide) (fun h_6 => ?_) (fun h_6 => ?_)
  · try simp only [hu] at h_6
    refine z_iconst (v := 0) F dX8_notes_45 (by decide) ?_
    refine z_istore_n (lv' := [_, _]) F dX8_notes_46 (by decide) rfl rfl ?_
    have hu8 : u ≠ 8 := fun e => h_6 (by rw [e]; rfl)
    refine start2 M u hu (by omega) ?_
    unfold notU notN
    rw [if_neg hu8, if_neg hu8]
  · try simp only [hu] at h_6
    refine z_bipush (v := 14) F dX8_notes_9 (by decide) ?_
    refine z_istore_n (lv' := [_, _]) F dX8_notes_11 (by decide) rfl rfl ?_
    have hu8 : u = 8 := (nI_eq (b := 8) (by omega) (by decide)).mp h_6
    have k0 := key1 hu8 98 0 (by omega)
    have e : shfF (M.1 (o + 7)) 0 = M.1 (o + 7) := funext fun q => if_neg (by omega)
    rw [e, za_self] at k0
    exact k0
theorem c_X8_undo {l : Launch} {w : zE} (J : zJ w) {M : zM} {o u : Nat} (hk : zk o = 8) (ho : o = 138) (hu : M.1 o 20 = nI u) (h8 : u ≤ 8) : zCi l w yX8_undo cX8_undo 2 (some .int) 0 [.ref (w.2.2 o)] M (fun r M2 => (u = 0 ∧ r = -4 ∧ M2 = M) ∨ (∃ j, u = j + 1 ∧ r = nI j ∧ M2 = za (zs M o 20 (nI j)) (o + 3) (fun q => M.1 (o + 7) (14 * j + q)))) := by
  obtain ⟨hz1, hz2, hz3, hz4, hz5, hz6, hz7, hz8, hz9, hz10, hz11, hz12, hz13, hz14, hz15⟩ := zn8 ho
  have k8 := zkf8 o (zk_i hk (by decide)) hk
  refine zCi_of J zm_X8_undo [some (.ref (w.2.2 o)), none] (Nat.le_of_ble_eq_true rfl) rfl (fun g hg F X => ?_)
  subst hg
  match u, hu, h8 with
  | 0, hu, h8 =>
    refine z_aload_n F dX8_undo_0 rfl ?_
    refine zg_X8_undos F (by with_reducible assumption) fl_X8_66 dX8_undo_1 ?_
    try simp only [hu]
    refine z_if_ne (tgt := 10) F dX8_undo_4 (by decide) (fun h_4 => absurd h_4 (not_not_intro rfl)) (fun h_4 => ?_)
    refine z_bipush (v := (-4)) F dX8_undo_7 (by decide) ?_
    refine z_iret F X dX8_undo_9 ?_
    exact Or.inl ⟨rfl, rfl, rfl⟩
  | v + 1, hu, h8 =>
    have e20 : (zs M o 20 (nI v)).1 o 20 = nI v := by rw [zs_at, va_up_self]
    have e3 : (zs M o 20 (nI v)).1 (o + 3) = M.1 (o + 3) := zs_off _ (by omega)
    have e7 : (zs M o 20 (nI v)).1 (o + 7) = M.1 (o + 7) := zs_off _ (by omega)
    generalize hM : zs M o 20 (nI v) = M' at X e20 e3 e7
    have f0 : ∀ f, (za M' (o + 3) f).1 o = M'.1 o := fun f => za_off _ (by omega)
    have f7 : ∀ f, (za M' (o + 3) f).1 (o + 7) = M'.1 (o + 7) := fun f => za_off _ (by omega)
    have key : ∀ (j k : Nat), k + j = 14 → ZW w g 2 22 [some (.ref (w.2.2 o)), some (.int (nI k))] [] (za M' (o + 3) (cpF k (M.1 (o + 3)) (fun q => M.1 (o + 7) (14 * v + q)))) := by
      intro j
      induction j with
      | zero =>
        intro k hkj
        have e : k = 14 := by omega
        subst e
        refine z_10 (i := o + 3) (f := fun q => M.1 (o + 7) (14 * v + q)) k8.2.2.1 (fun j hj => ?_) ?_
        · rw [hz3] at hj
          rw [za_at]
          exact (if_pos hj).symm
        rw [za_za]
        refine z_iload_n F dX8_undo_22 rfl ?_
        refine z_bipush (v := 14) F dX8_undo_23 (by decide) ?_
        refine z_ic_ge (tgt := 54) F dX8_undo_25 (by decide) (fun h_25 => ?_) (fun h_25 => absurd h_25 (by decide))
        refine z_aload_n F dX8_undo_54 rfl ?_
        refine zg_X8_undos F (by with_reducible assumption) fl_X8_66 dX8_undo_55 ?_
        try simp only [f0, e20]
        refine z_iret F X dX8_undo_58 ?_
        exact Or.inr ⟨v, rfl, rfl, by rw [hM]⟩
      | succ j ih =>
        intro k hkj
        have ih2 := ih (k + 1) (by omega)
        rw [← nI_1, ← cpF_up _ _ _ rfl] at ih2
        refine z_iload_n F dX8_undo_22 rfl ?_
        refine z_bipush (v := 14) F dX8_undo_23 (by decide) ?_
        refine z_ic_ge (tgt := 54) F dX8_undo_25 (by decide) (fun h_25 => absurd h_25 (nle (nI_lt (b := 14) (by omega) (by decide)))) (fun h_25 => ?_)
        refine z_aload_n F dX8_undo_28 rfl ?_
        refine zg_X8_now F (by with_reducible assumption) fl_X8_16 dX8_undo_29 (fun hk_29 => ?_)
        refine z_iload_n F dX8_undo_32 rfl ?_
        refine z_aload_n F dX8_undo_33 rfl ?_
        refine zg_X8_undone F (by with_reducible assumption) fl_X8_28 dX8_undo_34 (fun hk_34 => ?_)
        refine z_bipush (v := 14) F dX8_undo_37 (by decide) ?_
        refine z_aload_n F dX8_undo_39 rfl ?_
        refine zg_X8_undos F (by with_reducible assumption) fl_X8_66 dX8_undo_40 ?_
        try simp only [f0, f7, e20, e7]
        refine z_imul F dX8_undo_43 ?_
        refine z_iload_n F dX8_undo_44 rfl ?_
        refine z_iadd F dX8_undo_45 ?_
        refine z_iald10n (q := ((14 * v) + k)) F (by with_reducible assumption) (by first | with_reducible rfl | (simp only [n4, n2, n3, n5, n14, n16, na1, na2, na3, nI_add, nI_1, nI_pred]; done) | (simp only [n4, n2, n3, n5, n14, n16, na1, na2, na3, nI_add, nI_1, nI_pred, Nat.add_assoc, Nat.add_comm, Nat.add_left_comm]; done)) (by rw [hz7]; omega) dX8_undo_46 ?_
        try simp only [f0, f7, e20, e7]
        refine z_iast10n (q := k) F (by with_reducible assumption) (by first | with_reducible rfl | (simp only [n4, n2, n3, n5, n14, n16, na1, na2, na3, nI_add, nI_1, nI_pred]; done) | (simp only [n4, n2, n3, n5, n14, n16, na1, na2, na3, nI_add, nI_1, nI_pred, Nat.add_assoc, Nat.add_comm, Nat.add_left_comm]; done)) (by rw [hz3]; omega) dX8_undo_47 ?_
        refine z_iincc (c := 1) (lv' := [_, _]) F dX8_undo_48 rfl (by decide) (by decide) rfl rfl ?_
        refine z_goto (tgt := 22) F dX8_undo_51 (by decide) ?_
        rw [zs_za, za_at, za_za]
        exact ih2
    have k0 := key 14 0 (by omega)
    rw [cpF_0, ← e3, za_self] at k0
    refine z_aload_n F dX8_undo_0 rfl ?_
    refine zg_X8_undos F (by with_reducible assumption) fl_X8_66 dX8_undo_1 ?_
    try simp only [hu]
    refine z_if_ne (tgt := 10) F dX8_undo_4 (by decide) (fun h_4 => ?_) (fun h_4 => absurd h_4 (nI_ne0 (by omega) (by omega)))
    refine z_aload_n F dX8_undo_10 rfl ?_
    refine z_dup F dX8_undo_11 rfl ?_
    refine zg_X8_undos F (by with_reducible assumption) fl_X8_66 dX8_undo_12 ?_
    try simp only [hu]
    refine z_iconst (v := 1) F dX8_undo_15 (by decide) ?_
    refine z_isub F dX8_undo_16 ?_
    rw [nI_pred]
    refine zp_X8_undos F (by with_reducible assumption) fl_X8_66 dX8_undo_17 ?_
    rw [hM]
    refine z_iconst (v := 0) F dX8_undo_20 (by decide) ?_
    refine z_istore_n (lv' := [_, _]) F dX8_undo_21 (by decide) rfl rfl ?_
    exact k0
