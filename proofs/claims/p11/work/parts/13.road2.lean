def whoL (T : zF1) (x : Int32) : Nat → Nat → Int32
  | 0, _ => -4
  | j + 1, k => if T (5 + k) = x then nI k else whoL T x j (k + 1)
/-- who has it: he (8), the first of the people that has it, nobody -/
def whoF (T : zF1) (np : Nat) (x : Int32) : Int32 := if T 0 = x then 8 else whoL T x np 0
def peoB (pe : zF1) (m : Int32) : Nat → Nat → Int32
  | 0, _ => 0
  | j + 1, k => if pe (2 * k) = m then 1 else peoB pe m j (k + 1)
theorem c_X1_whoHas {l : Launch} {w : zE} (J : zJ w) {M : zM} {r t np : Nat} {x : Int32} (hk : zk r = 1) (ht : zk t = 5) (hnp : M.1 r 1 = nI np) (hnp9 : np ≤ 9) : zCi l w yX1_whoHas cX1_whoHas 4 (some .int) 0 [.ref (w.2.2 r), .int x, .ref (w.2.2 t)] M (fun v M2 => M2 = M ∧ v = whoF (M.1 t) np x) := by
  refine zCi_of J zm_X1_whoHas [some (.ref (w.2.2 r)), some (.int x), some (.ref (w.2.2 t)), none] (Nat.le_of_ble_eq_true rfl) rfl (fun g hg F X => ?_)
  subst hg
  have key : ∀ (j k : Nat), k + j = np → whoF (M.1 t) np x = whoL (M.1 t) x j k → ZW w g 4 13 [some (.ref (w.2.2 r)), some (.int x), some (.ref (w.2.2 t)), some (.int (nI k))] [] M := by
    intro j
    induction j with
    | zero =>
      intro k hkj hw
      refine z_iload_n F dX1_whoHas_13 rfl ?_
      refine z_aload_n F dX1_whoHas_14 rfl ?_
      refine zg_X1_personCount F (by with_reducible assumption) fl_X1_57 dX1_whoHas_15 ?_
      refine z_ic_ge (tgt := 39) F dX1_whoHas_18 (by decide) (fun h_18 => ?_) (fun h_18 => absurd h_18 (Int32.not_lt.mpr (by rw [hnp]; exact nI_le (by omega) (by omega))))
      refine z_bipush (v := (-4)) F dX1_whoHas_39 (by decide) ?_
      refine z_iret F X dX1_whoHas_41 ?_
      exact ⟨rfl, by rw [hw]; rfl⟩
    | succ j ih =>
      intro k hkj hw
      have hpin : vp_in (nI k) 9 := vp_in_nI (by omega) (by decide)
      have hpc : (nI k).toNatClampNeg = k := nI_clamp (by omega)
      refine z_iload_n F dX1_whoHas_13 rfl ?_
      refine z_aload_n F dX1_whoHas_14 rfl ?_
      refine zg_X1_personCount F (by with_reducible assumption) fl_X1_57 dX1_whoHas_15 ?_
      try simp only [hpc]
      refine z_ic_ge (tgt := 39) F dX1_whoHas_18 (by decide) (fun h_18 => absurd h_18 (Int32.not_le.mpr (by rw [hnp]; exact nI_lt (by omega) (by omega)))) (fun h_18 => ?_)
      refine z_aload_n F dX1_whoHas_21 rfl ?_
      refine zg_X5_theirs F (by with_reducible assumption) fl_X1_60 dX1_whoHas_22 (fun hk_22 => ?_)
      refine z_iload_n F dX1_whoHas_25 rfl ?_
      refine z_iald11 F (by with_reducible assumption) hpin dX1_whoHas_26 ?_
      try simp only [hpc]
      refine z_iload_n F dX1_whoHas_27 rfl ?_
      refine z_ic_ne (tgt := 33) F dX1_whoHas_28 (by decide) (fun h_28 => ?_) (fun h_28 => ?_)
      · try simp only [hpc] at h_28
        refine z_iincc (c := 1) (lv' := [_, _, _, _]) F dX1_whoHas_33 rfl (by decide) (by decide) rfl rfl ?_
        refine z_goto (tgt := 13) F dX1_whoHas_36 (by decide) ?_
        rw [nI_1]
        exact ih (k + 1) (by omega) (by rw [hw, whoL, if_neg h_28])
      · try simp only [hpc] at h_28
        refine z_iload_n F dX1_whoHas_31 rfl ?_
        refine z_iret F X dX1_whoHas_32 ?_
        exact ⟨rfl, by rw [hw, whoL, if_pos h_28]⟩
  refine z_aload_n F dX1_whoHas_0 rfl ?_
  refine zg_X5_his F (by with_reducible assumption) fl_X1_69 dX1_whoHas_1 ?_
  refine z_iload_n F dX1_whoHas_4 rfl ?_
  refine z_ic_ne (tgt := 11) F dX1_whoHas_5 (by decide) (fun h_5 => ?_) (fun h_5 => ?_)
  · refine z_iconst (v := 0) F dX1_whoHas_11 (by decide) ?_
    refine z_istore_n (lv' := [_, _, _, _]) F dX1_whoHas_12 (by decide) rfl rfl ?_
    exact key np 0 (by omega) (by rw [whoF, if_neg h_5])
  · refine z_bipush (v := 8) F dX1_whoHas_8 (by decide) ?_
    refine z_iret F X dX1_whoHas_10 ?_
    exact ⟨rfl, by rw [whoF, if_pos h_5]⟩
theorem c_X1_isPeopled {l : Launch} {w : zE} (J : zJ w) {M : zM} {r np : Nat} {x : Int32} (hk : zk r = 1) (hnp : M.1 r 1 = nI np) (hnp9 : np ≤ 9) : zCi l w yX1_isPeopled cX1_isPeopled 3 (some .boolean) 0 [.ref (w.2.2 r), .int x] M (fun v M2 => M2 = M ∧ v = peoB (M.1 (r + 12)) x np 0) := by
  refine zCi_of J zm_X1_isPeopled [some (.ref (w.2.2 r)), some (.int x), none] (Nat.le_of_ble_eq_true rfl) rfl (fun g hg F X => ?_)
  subst hg
  have key : ∀ (j k : Nat), k + j = np → peoB (M.1 (r + 12)) x np 0 = peoB (M.1 (r + 12)) x j k → ZW w g 3 2 [some (.ref (w.2.2 r)), some (.int x), some (.int (nI k))] [] M := by
    intro j
    induction j with
    | zero =>
      intro k hkj hw
      refine z_iload_n F dX1_isPeopled_2 rfl ?_
      refine z_aload_n F dX1_isPeopled_3 rfl ?_
      refine zg_X1_personCount F (by with_reducible assumption) fl_X1_57 dX1_isPeopled_4 ?_
      refine z_ic_ge (tgt := 28) F dX1_isPeopled_7 (by decide) (fun h_7 => ?_) (fun h_7 => absurd h_7 (Int32.not_lt.mpr (by rw [hnp]; exact nI_le (by omega) (by omega))))
      refine z_iconst (v := 0) F dX1_isPeopled_28 (by decide) ?_
      refine z_zret F X dX1_isPeopled_29 (by decide) ?_
      exact ⟨rfl, by rw [hw]; rfl⟩
    | succ j ih =>
      intro k hkj hw
      have hpin : vp_in (nI k) 9 := vp_in_nI (by omega) (by decide)
      have hpc : (nI k).toNatClampNeg = k := nI_clamp (by omega)
      refine z_iload_n F dX1_isPeopled_2 rfl ?_
      refine z_aload_n F dX1_isPeopled_3 rfl ?_
      refine zg_X1_personCount F (by with_reducible assumption) fl_X1_57 dX1_isPeopled_4 ?_
      try simp only [hpc]
      refine z_ic_ge (tgt := 28) F dX1_isPeopled_7 (by decide) (fun h_7 => absurd h_7 (Int32.not_le.mpr (by rw [hnp]; exact nI_lt (by omega) (by omega)))) (fun h_7 => ?_)
      refine z_aload_n F dX1_isPeopled_10 rfl ?_
      refine zg_X1_where F (by with_reducible assumption) fl_X1_17 dX1_isPeopled_11 (fun hk_11 => ?_)
      refine z_iload_n F dX1_isPeopled_14 rfl ?_
      refine z_iald12 F (by with_reducible assumption) hpin dX1_isPeopled_15 ?_
      try simp only [hpc]
      refine z_iload_n F dX1_isPeopled_16 rfl ?_
      refine z_ic_ne (tgt := 22) F dX1_isPeopled_17 (by decide) (fun h_17 => ?_) (fun h_17 => ?_)
      · try simp only [hpc] at h_17
        refine z_iincc (c := 1) (lv' := [_, _, _]) F dX1_isPeopled_22 rfl (by decide) (by decide) rfl rfl ?_
        refine z_goto (tgt := 2) F dX1_isPeopled_25 (by decide) ?_
        rw [nI_1]
        exact ih (k + 1) (by omega) (by rw [hw, peoB, if_neg h_17])
      · try simp only [hpc] at h_17
        refine z_iconst (v := 1) F dX1_isPeopled_20 (by decide) ?_
        refine z_zret F X dX1_isPeopled_21 (by decide) ?_
        exact ⟨rfl, by rw [hw, peoB, if_pos h_17]⟩
  refine z_iconst (v := 0) F dX1_isPeopled_0 (by decide) ?_
  refine z_istore_n (lv' := [_, _, _]) F dX1_isPeopled_1 (by decide) rfl rfl ?_
  exact key np 0 (by omega) rfl
theorem c_X1_addThing {l : Launch} {w : zE} (J : zJ w) {M : zM} {r n : Nat} {a b c d : Int32} (hk : zk r = 1) (hn : M.1 r 0 = nI n) (h10 : n < 10) : zCi l w yX1_addThing cX1_addThing 5 (some .int) 1 [.ref (w.2.2 r), .int a, .int b, .int c, .int d] M (fun v M2 => M2 = zs (za M (r + 1) (setF (M.1 (r + 1)) n a b c d)) r 0 (nI (n + 1)) ∧ v = nI n) := by
  have n1 : r ≠ r + 1 := by omega
  have hpin : vp_in (nI n) 10 := vp_in_nI h10 (by decide)
  have hpc : (nI n).toNatClampNeg = n := nI_clamp (by omega)
  refine zCi_of J zm_X1_addThing [some (.ref (w.2.2 r)), some (.int a), some (.int b), some (.int c), some (.int d)] (Nat.le_of_ble_eq_true rfl) rfl (fun g hg F X => ?_)
  subst hg
  refine z_aload_n F dX1_addThing_0 rfl ?_
  refine zg_X1_thingCount F (by with_reducible assumption) fl_X1_48 dX1_addThing_1 ?_
  try simp only [za_off _ n1, zs_at, va_up_self, hn, nI_1]
  refine z_aload_n F dX1_addThing_4 rfl ?_
  refine zg_X1_things F (by with_reducible assumption) fl_X1_11 dX1_addThing_5 (fun hk_5 => ?_)
  refine z_alen16 F (by with_reducible assumption) dX1_addThing_8 ?_
  refine z_ic_lt (tgt := 15) F dX1_addThing_9 (by decide) (fun h_9 => ?_) (fun h_9 => absurd h_9 (Int32.not_le.mpr (nI_lt (b := 10) h10 (by decide))))
  refine z_aload_n F dX1_addThing_15 rfl ?_
  refine zg_X1_things F (by with_reducible assumption) fl_X1_11 dX1_addThing_16 (fun hk_16 => ?_)
  refine z_aload_n F dX1_addThing_19 rfl ?_
  refine zg_X1_thingCount F (by with_reducible assumption) fl_X1_48 dX1_addThing_20 ?_
  try simp only [za_off _ n1, zs_at, va_up_self, hn, nI_1]
  refine z_aald16 F (by with_reducible assumption) hpin dX1_addThing_23 (fun hk_23 hb_23 ho_23 => ?_)
  refine z_iload_n F dX1_addThing_24 rfl ?_
  refine z_iload_n F dX1_addThing_25 rfl ?_
  refine z_iload_n F dX1_addThing_26 rfl ?_
  refine z_iload F dX1_addThing_27 rfl ?_
  refine z_callVv F (c_X4_set J (by with_reducible assumption)) zm_X4_set zv_X4_set ml_X1_44 (by with_reducible assumption) (by decide) rfl rfl rfl (Nat.le_of_ble_eq_true rfl) dX1_addThing_29 (by decide) (fun M_29 h_29 => ?_)
  replace h_29 := Eq.symm h_29
  subst h_29
  refine z_aload_n F dX1_addThing_32 rfl ?_
  refine z_dup F dX1_addThing_33 rfl ?_
  refine zg_X1_thingCount F (by with_reducible assumption) fl_X1_48 dX1_addThing_34 ?_
  try simp only [za_off _ n1, zs_at, va_up_self, hn, nI_1]
  refine z_iconst (v := 1) F dX1_addThing_37 (by decide) ?_
  refine z_iadd F dX1_addThing_38 ?_
  refine zp_X1_thingCount F (by with_reducible assumption) fl_X1_48 dX1_addThing_39 ?_
  refine z_aload_n F dX1_addThing_42 rfl ?_
  refine zg_X1_thingCount F (by with_reducible assumption) fl_X1_48 dX1_addThing_43 ?_
  try simp only [za_off _ n1, zs_at, va_up_self, hn, nI_1]
  refine z_iconst (v := 1) F dX1_addThing_46 (by decide) ?_
  refine z_isub F dX1_addThing_47 ?_
  refine z_iret F X dX1_addThing_48 ?_
  simp only [hpc] at hb_23 ho_23
  simp only [hpc, hb_23, ho_23, za_off _ n1, hn, nI_1, nI_pred]
  constructor <;> first | rfl | trivial
theorem c_X1_addPerson {l : Launch} {w : zE} (J : zJ w) {M : zM} {r t n : Nat} {a b x : Int32} (hk : zk r = 1) (ht : zk t = 5) (hn : M.1 r 1 = nI n) (h9 : n < 9) : zCi l w yX1_addPerson cX1_addPerson 5 (some .int) 0 [.ref (w.2.2 r), .int a, .int b, .int x, .ref (w.2.2 t)] M (fun v M2 => M2 = zs (zs (zs (zs M (r + 12) (2 * n) a) (r + 12) (2 * n + 1) b) t (5 + n) x) r 1 (nI (n + 1)) ∧ v = nI n) := by
  obtain ⟨e1, e12, e13⟩ := zkf1 r (zk_i hk (by decide)) hk
  have n1 : r ≠ r + 12 := by omega
  have n2 : r ≠ t := zk_ne hk ht (by decide)
  have hpin : vp_in (nI n) 9 := vp_in_nI h9 (by decide)
  have hpc : (nI n).toNatClampNeg = n := nI_clamp (by omega)
  refine zCi_of J zm_X1_addPerson [some (.ref (w.2.2 r)), some (.int a), some (.int b), some (.int x), some (.ref (w.2.2 t))] (Nat.le_of_ble_eq_true rfl) rfl (fun g hg F X => ?_)
  subst hg
  refine z_aload_n F dX1_addPerson_0 rfl ?_
  refine zg_X1_personCount F (by with_reducible assumption) fl_X1_57 dX1_addPerson_1 ?_
  try simp only [zs_off _ n1, zs_off _ n2, zs_at, va_up_self, hn, nI_1, hpc]
  refine z_aload_n F dX1_addPerson_4 rfl ?_
  refine zg_X1_where F (by with_reducible assumption) fl_X1_17 dX1_addPerson_5 (fun hk_5 => ?_)
  refine z_alen12 F (by with_reducible assumption) dX1_addPerson_8 ?_
  refine z_ic_lt (tgt := 15) F dX1_addPerson_9 (by decide) (fun h_9 => ?_) (fun h_9 => absurd h_9 (Int32.not_le.mpr (nI_lt (b := 9) h9 (by decide))))
  refine z_aload_n F dX1_addPerson_15 rfl ?_
  refine zg_X1_where F (by with_reducible assumption) fl_X1_17 dX1_addPerson_16 (fun hk_16 => ?_)
  refine z_aload_n F dX1_addPerson_19 rfl ?_
  refine zg_X1_personCount F (by with_reducible assumption) fl_X1_57 dX1_addPerson_20 ?_
  try simp only [zs_off _ n1, zs_off _ n2, zs_at, va_up_self, hn, nI_1, hpc]
  refine z_iload_n F dX1_addPerson_23 rfl ?_
  refine z_iast12 F (by with_reducible assumption) hpin dX1_addPerson_24 ?_
  refine z_aload_n F dX1_addPerson_25 rfl ?_
  refine zg_X1_margin F (by with_reducible assumption) fl_X1_21 dX1_addPerson_26 (fun hk_26 => ?_)
  refine z_aload_n F dX1_addPerson_29 rfl ?_
  refine zg_X1_personCount F (by with_reducible assumption) fl_X1_57 dX1_addPerson_30 ?_
  try simp only [zs_off _ n1, zs_off _ n2, zs_at, va_up_self, hn, nI_1, hpc]
  refine z_iload_n F dX1_addPerson_33 rfl ?_
  refine z_iast13 F (by with_reducible assumption) hpin dX1_addPerson_34 ?_
  refine z_aload F dX1_addPerson_35 rfl ?_
  refine zg_X5_theirs F (by with_reducible assumption) fl_X1_60 dX1_addPerson_37 (fun hk_37 => ?_)
  refine z_aload_n F dX1_addPerson_40 rfl ?_
  refine zg_X1_personCount F (by with_reducible assumption) fl_X1_57 dX1_addPerson_41 ?_
  try simp only [zs_off _ n1, zs_off _ n2, zs_at, va_up_self, hn, nI_1, hpc]
  refine z_iload_n F dX1_addPerson_44 rfl ?_
  refine z_iast11 F (by with_reducible assumption) hpin dX1_addPerson_45 ?_
  refine z_aload_n F dX1_addPerson_46 rfl ?_
  refine z_dup F dX1_addPerson_47 rfl ?_
  refine zg_X1_personCount F (by with_reducible assumption) fl_X1_57 dX1_addPerson_48 ?_
  try simp only [zs_off _ n1, zs_off _ n2, zs_at, va_up_self, hn, nI_1, hpc]
  refine z_iconst (v := 1) F dX1_addPerson_51 (by decide) ?_
  refine z_iadd F dX1_addPerson_52 ?_
  refine zp_X1_personCount F (by with_reducible assumption) fl_X1_57 dX1_addPerson_53 ?_
  refine z_aload_n F dX1_addPerson_56 rfl ?_
  refine zg_X1_personCount F (by with_reducible assumption) fl_X1_57 dX1_addPerson_57 ?_
  try simp only [zs_off _ n1, zs_off _ n2, zs_at, va_up_self, hn, nI_1, hpc]
  refine z_iconst (v := 1) F dX1_addPerson_60 (by decide) ?_
  refine z_isub F dX1_addPerson_61 ?_
  refine z_iret F X dX1_addPerson_62 ?_
  simp only [hpc, nI_pred]
  constructor <;> first | rfl | trivial
def mindsF (th : zF1) (a b : Nat) : Int32 := (0 ||| (if feltF th b 0 0 < feltF th a 0 0 then 1 else 0)) ||| (if feltF th b 1 0 < feltF th a 1 0 then 2 else 0)
theorem c_X1_mindsOf {l : Launch} {w : zE} (J : zJ w) {M : zM} {r : Nat} {a b : Int32} (hk : zk r = 1) (ha : 0 ≤ a ∧ a < 10) (hb : 0 ≤ b ∧ b < 10) : zCi l w yX1_mindsOf cX1_mindsOf 5 (some .int) 1 [.ref (w.2.2 r), .int a, .int b] M (fun v M2 => M2 = M ∧ v = mindsF (M.1 (r + 1)) a.toNatClampNeg b.toNatClampNeg) := by
  refine zCi_of J zm_X1_mindsOf [some (.ref (w.2.2 r)), some (.int a), some (.int b), none, none] (Nat.le_of_ble_eq_true rfl) rfl (fun g hg F X => ?_)
  subst hg
  refine z_iconst (v := 0) F dX1_mindsOf_0 (by decide) ?_
  refine z_istore_n (lv' := [_, _, _, _, _]) F dX1_mindsOf_1 (by decide) rfl rfl ?_
  refine z_iconst (v := 0) F dX1_mindsOf_2 (by decide) ?_
  refine z_istore (lv' := [_, _, _, _, _]) F dX1_mindsOf_3 (by decide) rfl rfl ?_
  refine z_iload F dX1_mindsOf_5 rfl ?_
  refine z_iconst (v := 1) F dX1_mindsOf_7 (by decide) ?_
  refine z_ic_gt (tgt := 51) F dX1_mindsOf_8 (by decide) (fun h_8 => absurd h_8 (by decide)) (fun h_8 => ?_)
  refine z_aload_n F dX1_mindsOf_11 rfl ?_
  refine zg_X1_things F (by with_reducible assumption) fl_X1_11 dX1_mindsOf_12 (fun hk_12 => ?_)
  refine z_iload_n F dX1_mindsOf_15 rfl ?_
  refine z_aald16 F (by with_reducible assumption) (vpl 10 (by decide) (by first | with_reducible assumption | grind)) dX1_mindsOf_16 (fun hk_16 hb_16 ho_16 => ?_)
  refine z_iload F dX1_mindsOf_17 rfl ?_
  refine z_iconst (v := 0) F dX1_mindsOf_19 (by decide) ?_
  refine z_callVi F (c_X4_feltBy J (by with_reducible assumption)) zm_X4_feltBy zv_X4_feltBy ml_X1_89 (by with_reducible assumption) (by decide) rfl rfl rfl (Nat.le_of_ble_eq_true rfl) dX1_mindsOf_20 (by decide) (fun r_20 M_20 h_20 => ?_)
  obtain ⟨e_20, rfl⟩ := h_20
  replace e_20 := Eq.symm e_20
  subst e_20
  refine z_aload_n F dX1_mindsOf_23 rfl ?_
  refine zg_X1_things F (by with_reducible assumption) fl_X1_11 dX1_mindsOf_24 (fun hk_24 => ?_)
  refine z_iload_n F dX1_mindsOf_27 rfl ?_
  refine z_aald16 F (by with_reducible assumption) (vpl 10 (by decide) (by first | with_reducible assumption | grind)) dX1_mindsOf_28 (fun hk_28 hb_28 ho_28 => ?_)
  refine z_iload F dX1_mindsOf_29 rfl ?_
  refine z_iconst (v := 0) F dX1_mindsOf_31 (by decide) ?_
  refine z_callVi F (c_X4_feltBy J (by with_reducible assumption)) zm_X4_feltBy zv_X4_feltBy ml_X1_89 (by with_reducible assumption) (by decide) rfl rfl rfl (Nat.le_of_ble_eq_true rfl) dX1_mindsOf_32 (by decide) (fun r_32 M_32 h_32 => ?_)
  obtain ⟨e_32, rfl⟩ := h_32
  replace e_32 := Eq.symm e_32
  subst e_32
  refine z_ic_le (tgt := 45) F dX1_mindsOf_35 (by decide) (fun h_35 => ?_) (fun h_35 => ?_)
  · refine z_iincc (c := 1) (lv' := [_, _, _, _, _]) F dX1_mindsOf_45 rfl (by decide) (by decide) rfl rfl ?_
    refine z_goto (tgt := 5) F dX1_mindsOf_48 (by decide) ?_
    refine z_iload F dX1_mindsOf_5 rfl ?_
    refine z_iconst (v := 1) F dX1_mindsOf_7 (by decide) ?_
    refine z_ic_gt (tgt := 51) F dX1_mindsOf_8 (by decide) (fun h_8x => absurd h_8x (by decide)) (fun h_8x => ?_)
    refine z_aload_n F dX1_mindsOf_11 rfl ?_
    refine zg_X1_things F (by with_reducible assumption) fl_X1_11 dX1_mindsOf_12 (fun hk_12x => ?_)
    refine z_iload_n F dX1_mindsOf_15 rfl ?_
    refine z_aald16 F (by with_reducible assumption) (vpl 10 (by decide) (by first | with_reducible assumption | grind)) dX1_mindsOf_16 (fun hk_16x hb_16x ho_16x => ?_)
    refine z_iload F dX1_mindsOf_17 rfl ?_
    refine z_iconst (v := 0) F dX1_mindsOf_19 (by decide) ?_
    refine z_callVi F (c_X4_feltBy J (by with_reducible assumption)) zm_X4_feltBy zv_X4_feltBy ml_X1_89 (by with_reducible assumption) (by decide) rfl rfl rfl (Nat.le_of_ble_eq_true rfl) dX1_mindsOf_20 (by decide) (fun r_20x M_20x h_20x => ?_)
    obtain ⟨e_20x, rfl⟩ := h_20x
    replace e_20x := Eq.symm e_20x
    subst e_20x
    refine z_aload_n F dX1_mindsOf_23 rfl ?_
    refine zg_X1_things F (by with_reducible assumption) fl_X1_11 dX1_mindsOf_24 (fun hk_24x => ?_)
    refine z_iload_n F dX1_mindsOf_27 rfl ?_
    refine z_aald16 F (by with_reducible assumption) (vpl 10 (by decide) (by first | with_reducible assumption | grind)) dX1_mindsOf_28 (fun hk_28x hb_28x ho_28x => ?_)
    refine z_iload F dX1_mindsOf_29 rfl ?_
    refine z_iconst (v := 0) F dX1_mindsOf_31 (by decide) ?_
    refine z_callVi F (c_X4_feltBy J (by with_reducible assumption)) zm_X4_feltBy zv_X4_feltBy ml_X1_89 (by with_reducible assumption) (by decide) rfl rfl rfl (Nat.le_of_ble_eq_true rfl) dX1_mindsOf_32 (by decide) (fun r_32x M_32x h_32x => ?_)
    obtain ⟨e_32x, rfl⟩ := h_32x
    replace e_32x := Eq.symm e_32x
    subst e_32x
    refine z_ic_le (tgt := 45) F dX1_mindsOf_35 (by decide) (fun h_35x => ?_) (fun h_35x => ?_)
    · refine z_iincc (c := 1) (lv' := [_, _, _, _, _]) F dX1_mindsOf_45 rfl (by decide) (by decide) rfl rfl ?_
      refine z_goto (tgt := 5) F dX1_mindsOf_48 (by decide) ?_
      refine z_iload F dX1_mindsOf_5 rfl ?_
      refine z_iconst (v := 1) F dX1_mindsOf_7 (by decide) ?_
      refine z_ic_gt (tgt := 51) F dX1_mindsOf_8 (by decide) (fun h_8xx => ?_) (fun h_8xx => absurd h_8xx (by decide))
      refine z_iload_n F dX1_mindsOf_51 rfl ?_
      refine z_iret F X dX1_mindsOf_52 ?_
      simp only [hb_16, ho_16, hb_28, ho_28, show (0 : Int32) + 1 = 1 from rfl] at h_35 h_35x
      refine ⟨rfl, ?_⟩
      unfold mindsF
      first | rw [if_pos h_35] | rw [if_neg (nlt h_35)]
      first | rw [if_pos h_35x] | rw [if_neg (nlt h_35x)]
      decide
    · refine z_iload_n F dX1_mindsOf_38 rfl ?_
      refine z_iconst (v := 1) F dX1_mindsOf_39 (by decide) ?_
      refine z_iload F dX1_mindsOf_40 rfl ?_
      refine z_ishl F dX1_mindsOf_42 ?_
      refine z_ior F dX1_mindsOf_43 ?_
      refine z_istore_n (lv' := [_, _, _, _, _]) F dX1_mindsOf_44 (by decide) rfl rfl ?_
      refine z_iincc (c := 1) (lv' := [_, _, _, _, _]) F dX1_mindsOf_45 rfl (by decide) (by decide) rfl rfl ?_
      refine z_goto (tgt := 5) F dX1_mindsOf_48 (by decide) ?_
      refine z_iload F dX1_mindsOf_5 rfl ?_
      refine z_iconst (v := 1) F dX1_mindsOf_7 (by decide) ?_
      refine z_ic_gt (tgt := 51) F dX1_mindsOf_8 (by decide) (fun h_8xx => ?_) (fun h_8xx => absurd h_8xx (by decide))
      refine z_iload_n F dX1_mindsOf_51 rfl ?_
      refine z_iret F X dX1_mindsOf_52 ?_
      simp only [hb_16, ho_16, hb_28, ho_28, show (0 : Int32) + 1 = 1 from rfl] at h_35 h_35x
      refine ⟨rfl, ?_⟩
      unfold mindsF
      first | rw [if_pos h_35] | rw [if_neg (nlt h_35)]
      first | rw [if_pos h_35x] | rw [if_neg (nlt h_35x)]
      decide
  · refine z_iload_n F dX1_mindsOf_38 rfl ?_
    refine z_iconst (v := 1) F dX1_mindsOf_39 (by decide) ?_
    refine z_iload F dX1_mindsOf_40 rfl ?_
    refine z_ishl F dX1_mindsOf_42 ?_
    refine z_ior F dX1_mindsOf_43 ?_
    refine z_istore_n (lv' := [_, _, _, _, _]) F dX1_mindsOf_44 (by decide) rfl rfl ?_
    refine z_iincc (c := 1) (lv' := [_, _, _, _, _]) F dX1_mindsOf_45 rfl (by decide) (by decide) rfl rfl ?_
    refine z_goto (tgt := 5) F dX1_mindsOf_48 (by decide) ?_
    refine z_iload F dX1_mindsOf_5 rfl ?_
    refine z_iconst (v := 1) F dX1_mindsOf_7 (by decide) ?_
    refine z_ic_gt (tgt := 51) F dX1_mindsOf_8 (by decide) (fun h_8x => absurd h_8x (by decide)) (fun h_8x => ?_)
    refine z_aload_n F dX1_mindsOf_11 rfl ?_
    refine zg_X1_things F (by with_reducible assumption) fl_X1_11 dX1_mindsOf_12 (fun hk_12x => ?_)
    refine z_iload_n F dX1_mindsOf_15 rfl ?_
    refine z_aald16 F (by with_reducible assumption) (vpl 10 (by decide) (by first | with_reducible assumption | grind)) dX1_mindsOf_16 (fun hk_16x hb_16x ho_16x => ?_)
    refine z_iload F dX1_mindsOf_17 rfl ?_
    refine z_iconst (v := 0) F dX1_mindsOf_19 (by decide) ?_
    refine z_callVi F (c_X4_feltBy J (by with_reducible assumption)) zm_X4_feltBy zv_X4_feltBy ml_X1_89 (by with_reducible assumption) (by decide) rfl rfl rfl (Nat.le_of_ble_eq_true rfl) dX1_mindsOf_20 (by decide) (fun r_20x M_20x h_20x => ?_)
    obtain ⟨e_20x, rfl⟩ := h_20x
    replace e_20x := Eq.symm e_20x
    subst e_20x
    refine z_aload_n F dX1_mindsOf_23 rfl ?_
    refine zg_X1_things F (by with_reducible assumption) fl_X1_11 dX1_mindsOf_24 (fun hk_24x => ?_)
    refine z_iload_n F dX1_mindsOf_27 rfl ?_
    refine z_aald16 F (by with_reducible assumption) (vpl 10 (by decide) (by first | with_reducible assumption | grind)) dX1_mindsOf_28 (fun hk_28x hb_28x ho_28x => ?_)
    refine z_iload F dX1_mindsOf_29 rfl ?_
    refine z_iconst (v := 0) F dX1_mindsOf_31 (by decide) ?_
    refine z_callVi F (c_X4_feltBy J (by with_reducible assumption)) zm_X4_feltBy zv_X4_feltBy ml_X1_89 (by with_reducible assumption) (by decide) rfl rfl rfl (Nat.le_of_ble_eq_true rfl) dX1_mindsOf_32 (by decide) (fun r_32x M_32x h_32x => ?_)
    obtain ⟨e_32x, rfl⟩ := h_32x
    replace e_32x := Eq.symm e_32x
    subst e_32x
    refine z_ic_le (tgt := 45) F dX1_mindsOf_35 (by decide) (fun h_35x => ?_) (fun h_35x => ?_)
    · refine z_iincc (c := 1) (lv' := [_, _, _, _, _]) F dX1_mindsOf_45 rfl (by decide) (by decide) rfl rfl ?_
      refine z_goto (tgt := 5) F dX1_mindsOf_48 (by decide) ?_
      refine z_iload F dX1_mindsOf_5 rfl ?_
      refine z_iconst (v := 1) F dX1_mindsOf_7 (by decide) ?_
      refine z_ic_gt (tgt := 51) F dX1_mindsOf_8 (by decide) (fun h_8xx => ?_) (fun h_8xx => absurd h_8xx (by decide))
      refine z_iload_n F dX1_mindsOf_51 rfl ?_
      refine z_iret F X dX1_mindsOf_52 ?_
      simp only [hb_16, ho_16, hb_28, ho_28, show (0 : Int32) + 1 = 1 from rfl] at h_35 h_35x
      refine ⟨rfl, ?_⟩
      unfold mindsF
      first | rw [if_pos h_35] | rw [if_neg (nlt h_35)]
      first | rw [if_pos h_35x] | rw [if_neg (nlt h_35x)]
      decide
    · refine z_iload_n F dX1_mindsOf_38 rfl ?_
      refine z_iconst (v := 1) F dX1_mindsOf_39 (by decide) ?_
      refine z_iload F dX1_mindsOf_40 rfl ?_
      refine z_ishl F dX1_mindsOf_42 ?_
      refine z_ior F dX1_mindsOf_43 ?_
      refine z_istore_n (lv' := [_, _, _, _, _]) F dX1_mindsOf_44 (by decide) rfl rfl ?_
      refine z_iincc (c := 1) (lv' := [_, _, _, _, _]) F dX1_mindsOf_45 rfl (by decide) (by decide) rfl rfl ?_
      refine z_goto (tgt := 5) F dX1_mindsOf_48 (by decide) ?_
      refine z_iload F dX1_mindsOf_5 rfl ?_
      refine z_iconst (v := 1) F dX1_mindsOf_7 (by decide) ?_
      refine z_ic_gt (tgt := 51) F dX1_mindsOf_8 (by decide) (fun h_8xx => ?_) (fun h_8xx => absurd h_8xx (by decide))
      refine z_iload_n F dX1_mindsOf_51 rfl ?_
      refine z_iret F X dX1_mindsOf_52 ?_
      simp only [hb_16, ho_16, hb_28, ho_28, show (0 : Int32) + 1 = 1 from rfl] at h_35 h_35x
      refine ⟨rfl, ?_⟩
      unfold mindsF
      first | rw [if_pos h_35] | rw [if_neg (nlt h_35)]
      first | rw [if_pos h_35x] | rw [if_neg (nlt h_35x)]
      decide
theorem c_X5_setFrom {l : Launch} {w : zE} (J : zJ w) {M : zM} {t t2 : Nat} (ht : zk t = 5) (ht2 : zk t2 = 5) (hne : t2 ≠ t) : zCv l w yX5_setFrom cX5_setFrom 2 1 [.ref (w.2.2 t), .ref (w.2.2 t2)] M (fun M2 => M2 = za M t (cpF 14 (M.1 t) (M.1 t2))) := by
  refine zCv_of J zm_X5_setFrom [some (.ref (w.2.2 t)), some (.ref (w.2.2 t2))] (Nat.le_of_ble_eq_true rfl) rfl (fun g hg F X => ?_)
  subst hg
  refine z_aload_n F dX5_setFrom_0 rfl ?_
  refine z_aload_n F dX5_setFrom_1 rfl ?_
  refine zg_X5_his F (by with_reducible assumption) fl_X5_9 dX5_setFrom_2 ?_
  try simp only [zs_off _ hne]
  refine zp_X5_his F (by with_reducible assumption) fl_X5_9 dX5_setFrom_5 ?_
  refine z_aload_n F dX5_setFrom_8 rfl ?_
  refine z_aload_n F dX5_setFrom_9 rfl ?_
  refine zg_X5_n F (by with_reducible assumption) fl_X5_22 dX5_setFrom_10 ?_
  try simp only [zs_off _ hne]
  refine zp_X5_n F (by with_reducible assumption) fl_X5_22 dX5_setFrom_13 ?_
  refine z_aload_n F dX5_setFrom_16 rfl ?_
  refine z_aload_n F dX5_setFrom_17 rfl ?_
  refine zg_X5_mind F (by with_reducible assumption) fl_X5_25 dX5_setFrom_18 ?_
  try simp only [zs_off _ hne]
  refine zp_X5_mind F (by with_reducible assumption) fl_X5_25 dX5_setFrom_21 ?_
  refine z_aload_n F dX5_setFrom_24 rfl ?_
  refine z_aload_n F dX5_setFrom_25 rfl ?_
  refine zg_X5_ahead F (by with_reducible assumption) fl_X5_28 dX5_setFrom_26 ?_
  try simp only [zs_off _ hne]
  refine zp_X5_ahead F (by with_reducible assumption) fl_X5_28 dX5_setFrom_29 ?_
  refine z_aload_n F dX5_setFrom_32 rfl ?_
  refine z_aload_n F dX5_setFrom_33 rfl ?_
  refine zg_X5_changes F (by with_reducible assumption) fl_X5_31 dX5_setFrom_34 ?_
  try simp only [zs_off _ hne]
  refine zp_X5_changes F (by with_reducible assumption) fl_X5_31 dX5_setFrom_37 ?_
  refine z_aload_n F dX5_setFrom_40 rfl ?_
  refine zg_X5_theirs F (by with_reducible assumption) fl_X5_18 dX5_setFrom_41 (fun hk_41 => ?_)
  refine z_iconst (v := 0) F dX5_setFrom_44 (by decide) ?_
  refine z_aload_n F dX5_setFrom_45 rfl ?_
  refine zg_X5_theirs F (by with_reducible assumption) fl_X5_18 dX5_setFrom_46 (fun hk_46 => ?_)
  refine z_iconst (v := 0) F dX5_setFrom_49 (by decide) ?_
  refine z_aload_n F dX5_setFrom_50 rfl ?_
  refine zg_X5_theirs F (by with_reducible assumption) fl_X5_18 dX5_setFrom_51 (fun hk_51 => ?_)
  refine z_alen11 F (by with_reducible assumption) dX5_setFrom_54 ?_
  refine z_copy11 F (by with_reducible assumption) (by with_reducible assumption) ac_X5_34 dX5_setFrom_55 (by decide) ?_
  refine z_vret F X dX5_setFrom_58 ?_
  simp only [zs_off _ hne, zs_za, za_za, za_at, za_off _ hne]
  refine congrArg (za M t) (funext fun o => ?_)
  unfold cpF va_up
  match o with
  | 0 => rfl
  | 1 => rfl
  | 2 => rfl
  | 3 => rfl
  | 4 => rfl
  | o + 5 =>
    by_cases h : o + 5 < 14
    · rw [if_pos h, if_pos (by omega)]
    · rw [if_neg h, if_neg (by omega)]; simp
theorem setF_cp (f g : zF1) (n : Nat) : setF (cpF (4 * n) f g) n (g (4 * n)) (g (4 * n + 1)) (g (4 * n + 2)) (g (4 * n + 3)) = cpF (4 * (n + 1)) f g := by
  funext o
  unfold setF cpF va_up
  by_cases h3 : o = 4 * n + 3
  · subst h3; rw [if_pos rfl, if_pos (by omega)]
  rw [if_neg h3]
  by_cases h2 : o = 4 * n + 2
  · subst h2; rw [if_pos rfl, if_pos (by omega)]
  rw [if_neg h2]
  by_cases h1 : o = 4 * n + 1
  · subst h1; rw [if_pos rfl, if_pos (by omega)]
  rw [if_neg h1]
  by_cases h0 : o = 4 * n
  · subst h0; rw [if_pos rfl, if_pos (by omega)]
  rw [if_neg h0]
  show (if o < 4 * n then g o else f o) = _
  by_cases h : o < 4 * n
  · rw [if_pos h, if_pos (by omega)]
  · rw [if_neg h, if_neg (by omega)]
/-- a road over another -/
def zrd (M : zM) (r : Nat) (rb th pe : zF1) : zM := za (za (za M (r + 1) th) (r + 12) pe) r rb
theorem c_X1_setFrom {l : Launch} {w : zE} (J : zJ w) {M : zM} {r r2 : Nat} (hk : zk r = 1) (hk2 : zk r2 = 1) (hne : r2 ≠ r) : zCv l w yX1_setFrom cX1_setFrom 4 1 [.ref (w.2.2 r), .ref (w.2.2 r2)] M (fun M2 => M2 = zrd M r (cpF 4 (M.1 r) (M.1 r2)) (cpF 40 (M.1 (r + 1)) (M.1 (r2 + 1))) (cpF 18 (M.1 (r + 12)) (M.1 (r2 + 12)))) := by
  obtain ⟨e1, e12, e13⟩ := zkf1 r (zk_i hk (by decide)) hk
  obtain ⟨g1, g12, g13⟩ := zkf1 r2 (zk_i hk2 (by decide)) hk2
  have n1 : r2 + 1 ≠ r + 1 := by omega
  have n12 : r2 + 12 ≠ r + 12 := by omega
  have m1 : r2 ≠ r + 1 := zk_ne hk2 e1 (by decide)
  have m2 : r2 ≠ r + 12 := zk_ne hk2 e12 (by decide)
  have m3 : r ≠ r + 1 := by omega
  have m4 : r ≠ r + 12 := by omega
  have m5 : r2 + 12 ≠ r := zk_ne g12 hk (by decide)
  have m6 : r2 + 12 ≠ r + 1 := zk_ne g12 e1 (by decide)
  have m7 : r + 12 ≠ r := by omega
  have m8 : r + 12 ≠ r + 1 := by omega
  refine zCv_of J zm_X1_setFrom [some (.ref (w.2.2 r)), some (.ref (w.2.2 r2)), none, none] (Nat.le_of_ble_eq_true rfl) rfl (fun g hg F X => ?_)
  subst hg
  have key : ∀ (j k : Nat) (x3 : Option Value), k + j = 10 → zok [some (.ref (w.2.2 r)), some (.ref (w.2.2 r2)), some (.int (nI k)), x3] 3 = true → ZW w g 4 2 [some (.ref (w.2.2 r)), some (.ref (w.2.2 r2)), some (.int (nI k)), x3] [] (za M (r + 1) (cpF (4 * k) (M.1 (r + 1)) (M.1 (r2 + 1)))) := by
    intro j
    induction j with
    | zero =>
      intro k x3 hkj hok
      have hkn : k = 10 := by omega
      subst hkn
      refine z_iload_n F dX1_setFrom_2 rfl ?_
      refine z_aload_n F dX1_setFrom_3 rfl ?_
      refine zg_X1_things F (by with_reducible assumption) fl_X1_11 dX1_setFrom_4 (fun hk_4 => ?_)
      refine z_alen16 F (by with_reducible assumption) dX1_setFrom_7 ?_
      refine z_ic_ge (tgt := 49) F dX1_setFrom_8 (by decide) (fun h_8 => ?_) (fun h_8 => absurd h_8 (by decide))
      refine z_aload_n F dX1_setFrom_49 rfl ?_
      refine z_aload_n F dX1_setFrom_50 rfl ?_
      refine zg_X1_thingCount F (by with_reducible assumption) fl_X1_48 dX1_setFrom_51 ?_
      try simp only [za_off _ hne, za_off _ m1, za_off _ m2, zs_off _ hne, zs_off _ m1, zs_off _ m2]
      refine zp_X1_thingCount F (by with_reducible assumption) fl_X1_48 dX1_setFrom_54 ?_
      refine z_aload_n F dX1_setFrom_57 rfl ?_
      refine zg_X1_where F (by with_reducible assumption) fl_X1_17 dX1_setFrom_58 (fun hk_58 => ?_)
      refine z_iconst (v := 0) F dX1_setFrom_61 (by decide) ?_
      refine z_aload_n F dX1_setFrom_62 rfl ?_
      refine zg_X1_where F (by with_reducible assumption) fl_X1_17 dX1_setFrom_63 (fun hk_63 => ?_)
      refine z_iconst (v := 0) F dX1_setFrom_66 (by decide) ?_
      refine z_aload_n F dX1_setFrom_67 rfl ?_
      refine zg_X1_where F (by with_reducible assumption) fl_X1_17 dX1_setFrom_68 (fun hk_68 => ?_)
      refine z_alen12 F (by with_reducible assumption) dX1_setFrom_71 ?_
      refine z_copy12 F (by with_reducible assumption) (by with_reducible assumption) ac_X1_51 dX1_setFrom_72 (by decide) ?_
      refine z_aload_n F dX1_setFrom_75 rfl ?_
      refine zg_X1_margin F (by with_reducible assumption) fl_X1_21 dX1_setFrom_76 (fun hk_76 => ?_)
      refine z_iconst (v := 0) F dX1_setFrom_79 (by decide) ?_
      refine z_aload_n F dX1_setFrom_80 rfl ?_
      refine zg_X1_margin F (by with_reducible assumption) fl_X1_21 dX1_setFrom_81 (fun hk_81 => ?_)
      refine z_iconst (v := 0) F dX1_setFrom_84 (by decide) ?_
      refine z_aload_n F dX1_setFrom_85 rfl ?_
      refine zg_X1_margin F (by with_reducible assumption) fl_X1_21 dX1_setFrom_86 (fun hk_86 => ?_)
      refine z_alen13 F (by with_reducible assumption) dX1_setFrom_89 ?_
      refine z_copy13 F (by with_reducible assumption) (by with_reducible assumption) ac_X1_51 dX1_setFrom_90 (by decide) ?_
      refine z_aload_n F dX1_setFrom_93 rfl ?_
      refine z_aload_n F dX1_setFrom_94 rfl ?_
      refine zg_X1_personCount F (by with_reducible assumption) fl_X1_57 dX1_setFrom_95 ?_
      try simp only [za_off _ hne, za_off _ m1, za_off _ m2, zs_off _ hne, zs_off _ m1, zs_off _ m2]
      refine zp_X1_personCount F (by with_reducible assumption) fl_X1_57 dX1_setFrom_98 ?_
      refine z_aload_n F dX1_setFrom_101 rfl ?_
      refine z_aload_n F dX1_setFrom_102 rfl ?_
      refine zg_X1_heed F (by with_reducible assumption) fl_X1_24 dX1_setFrom_103 ?_
      try simp only [za_off _ hne, za_off _ m1, za_off _ m2, zs_off _ hne, zs_off _ m1, zs_off _ m2]
      refine zp_X1_heed F (by with_reducible assumption) fl_X1_24 dX1_setFrom_106 ?_
      refine z_aload_n F dX1_setFrom_109 rfl ?_
      refine z_aload_n F dX1_setFrom_110 rfl ?_
      refine zg_X1_well F (by with_reducible assumption) fl_X1_28 dX1_setFrom_111 ?_
      try simp only [za_off _ hne, za_off _ m1, za_off _ m2, zs_off _ hne, zs_off _ m1, zs_off _ m2]
      refine zp_X1_well F (by with_reducible assumption) fl_X1_28 dX1_setFrom_114 ?_
      refine z_vret F X dX1_setFrom_117 ?_
      simp only [zs_za, za_at, za_za, za_off _ hne, za_off _ m1, za_off _ m2, za_off _ m3, za_off _ m4, za_off _ m5, za_off _ m6, za_off _ m7, za_off _ m8, za_off _ n12]
      have b1 : (fun o => if o % 2 = 1 ∧ o < 18 then M.1 (r2 + 12) o else if o % 2 = 0 ∧ o < 18 then M.1 (r2 + 12) o else M.1 (r + 12) o) = cpF 18 (M.1 (r + 12)) (M.1 (r2 + 12)) := by
        funext o
        unfold cpF
        by_cases h : o < 18
        · by_cases h2 : o % 2 = 1
          · rw [if_pos ⟨h2, h⟩, if_pos h]
          · rw [if_neg (by omega), if_pos (by omega), if_pos h]
        · rw [if_neg (by omega), if_neg (by omega), if_neg h]
      have b2 : va_up (va_up (va_up (va_up (M.1 r) 0 (M.1 r2 0)) 1 (M.1 r2 1)) 2 (M.1 r2 2)) 3 (M.1 r2 3) = cpF 4 (M.1 r) (M.1 r2) := by
        funext o
        match o with
        | 0 => rfl
        | 1 => rfl
        | 2 => rfl
        | 3 => rfl
        | o + 4 =>
          unfold cpF va_up
          rw [if_neg (by omega), if_neg (by omega), if_neg (by omega), if_neg (by omega), if_neg (by omega)]
      unfold zrd
      rw [b1, za_swap _ _ _ m4, za_za, b2]
    | succ j ih =>
      intro k x3 hkj hok
      have hpin : vp_in (nI k) 10 := vp_in_nI (by omega) (by decide)
      have hpc : (nI k).toNatClampNeg = k := nI_clamp (by omega)
      have ih2 := ih (k + 1)
      refine z_iload_n F dX1_setFrom_2 rfl ?_
      refine z_aload_n F dX1_setFrom_3 rfl ?_
      refine zg_X1_things F (by with_reducible assumption) fl_X1_11 dX1_setFrom_4 (fun hk_4 => ?_)
      refine z_alen16 F (by with_reducible assumption) dX1_setFrom_7 ?_
      refine z_ic_ge (tgt := 49) F dX1_setFrom_8 (by decide) (fun h_8 => absurd h_8 (Int32.not_le.mpr (nI_lt (b := 10) (by omega) (by decide)))) (fun h_8 => ?_)
      refine z_aload_n F dX1_setFrom_11 rfl ?_
      refine zg_X1_things F (by with_reducible assumption) fl_X1_11 dX1_setFrom_12 (fun hk_12 => ?_)
      refine z_iload_n F dX1_setFrom_15 rfl ?_
      refine z_aald16 F (by with_reducible assumption) hpin dX1_setFrom_16 (fun hk_16 hb_16 ho_16 => ?_)
      refine z_astore_n (lv' := [_, _, _, _]) F dX1_setFrom_17 (by decide) rfl rfl ?_
      refine z_aload_n F dX1_setFrom_18 rfl ?_
      refine zg_X1_things F (by with_reducible assumption) fl_X1_11 dX1_setFrom_19 (fun hk_19 => ?_)
      refine z_iload_n F dX1_setFrom_22 rfl ?_
      refine z_aald16 F (by with_reducible assumption) hpin dX1_setFrom_23 (fun hk_23 hb_23 ho_23 => ?_)
      refine z_aload_n F dX1_setFrom_24 rfl ?_
      refine zg_X4_kind F (by with_reducible assumption) fl_X1_32 dX1_setFrom_25 ?_
      refine z_aload_n F dX1_setFrom_28 rfl ?_
      refine zg_X4_worth F (by with_reducible assumption) fl_X1_35 dX1_setFrom_29 ?_
      refine z_aload_n F dX1_setFrom_32 rfl ?_
      refine zg_X4_load F (by with_reducible assumption) fl_X1_38 dX1_setFrom_33 ?_
      refine z_aload_n F dX1_setFrom_36 rfl ?_
      refine zg_X4_care F (by with_reducible assumption) fl_X1_41 dX1_setFrom_37 ?_
      refine z_callVv F (c_X4_set J (by with_reducible assumption)) zm_X4_set zv_X4_set ml_X1_44 (by with_reducible assumption) (by decide) rfl rfl rfl (Nat.le_of_ble_eq_true rfl) dX1_setFrom_40 (by decide) (fun M_40 h_40 => ?_)
      replace h_40 := Eq.symm h_40
      subst h_40
      refine z_iincc (c := 1) (lv' := [_, _, _, _]) F dX1_setFrom_43 rfl (by decide) (by decide) rfl rfl ?_
      refine z_goto (tgt := 2) F dX1_setFrom_46 (by decide) ?_
      simp only [hpc] at hb_16 ho_16 hb_23 ho_23 ⊢
      simp only [hb_16, ho_16, hb_23, ho_23, za_off _ n1, za_at, za_za, setF_cp, nI_1]
      exact ih2 _ (by omega) rfl
  refine z_iconst (v := 0) F dX1_setFrom_0 (by decide) ?_
  refine z_istore_n (lv' := [_, _, _, _]) F dX1_setFrom_1 (by decide) rfl rfl ?_
  have k0 := key 10 0 none (by omega) rfl
  have e : cpF (4 * 0) (M.1 (r + 1)) (M.1 (r2 + 1)) = M.1 (r + 1) := rfl
  rw [e, za_self] at k0
  exact k0
