theorem lw_end {w : zE} {p : Program} {l : Launch} {e : Env} {s : State} {m : MethodId} {below : List Frame} {meth : Method} {c : Code} {b : Nat} (hx : p.tables.exec = Jvm.exec) (hb : c.code = code) (hr : meth.sig.returnType = ret) (hlocks : meth.locks = false) {lv : List (Option Value)} {M : zM} : ZW w ((p, l, e, room_1), (s, m, #[Value.ref b], below), (meth, c, 154, 1768), (bA s.heap.size, lw_Z below #[Value.ref b] s)) 4 1242 lv [] M := by
  intro H locs ls hl hP hS
  refine lv_iconst (v := 1) hx hb dL_law_1242 (by decide) ?_
  refine va_forget (fun q hq => hS.2.2 q hq) ?_
  refine W.widen (k := 600000) (n := 7302250) (show 154 ≤ 600000 by decide) (show 1768 ≤ 7302250 by decide) ?_
  exact lw_ret hx hb hr hlocks dL_law_1243
theorem l_go {i L : Nat} (hL : L ≤ 3072) (hi : i ≤ 4000) : nI i ≤ nI L - 6 ↔ i + 6 ≤ L := by
  rw [Int32.le_iff_toInt_le, show (6 : Int32) = nI 6 from rfl, pk_sub_toInt (by omega) (by omega), nI_toInt (by omega)]
  omega
set_option maxHeartbeats 4000000 in
theorem law_loop {w : zE} {g : zG} {b L : Nat} {xs : Nat → Int32} (F : zF w g RL cL_law 4 1000) (J : zJ w) (hL : L ≤ 3072) (hX : va_X b L xs g.2.1.1 g.2.1.1.heap) (hbl : b < g.2.1.1.heap.size) (hbA : ¬ g.2.2.2.1 b) (E : ∀ lv M, ZW w g 4 1242 lv [] M) : ∀ (n i : Nat) (M : zM), L ≤ i + n → i ≤ 3080 → Sim M → ZW w g 4 18 [some (.ref b), some (.ref (w.2.2 0)), some (.ref (w.2.2 138)), some (.int (nI i))] [] M := by
  intro n
  induction n with
  | zero =>
    intro i M hn hi S
    refine z_iload_n F dL_law_18 rfl ?_
    refine z_aload_n F dL_law_19 rfl ?_
    refine z_scl F hX hbl hbA dL_law_20 ?_
    refine z_bipush (v := 6) F dL_law_21 (by decide) ?_
    refine z_isub F dL_law_23 ?_
    exact z_ic_gt (tgt := 1242) F dL_law_24 (by decide) (fun _ => E _ _) (fun h => by have := (l_go hL (by omega)).mp h; omega)
  | succ n ih =>
    intro i M hn hi S
    refine z_iload_n F dL_law_18 rfl ?_
    refine z_aload_n F dL_law_19 rfl ?_
    refine z_scl F hX hbl hbA dL_law_20 ?_
    refine z_bipush (v := 6) F dL_law_21 (by decide) ?_
    refine z_isub F dL_law_23 ?_
    refine z_ic_gt (tgt := 1242) F dL_law_24 (by decide) (fun _ => E _ _) (fun h24 => ?_)
    have h6 : i + 6 ≤ L := (l_go hL (by omega)).mp h24
    have K : ∀ M, Sim M → ZW w g 4 1236 [some (.ref b), some (.ref (w.2.2 0)), some (.ref (w.2.2 138)), some (.int (nI i))] [] M := by
      intro M S
      refine z_iincc (c := 6) (lv' := [_, _, _, _]) F dL_law_1236 rfl (by decide) (by decide) rfl rfl ?_
      refine z_goto (tgt := 18) F dL_law_1239 (by decide) ?_
      rw [show nI i + 6 = nI (i + 6) from nI_add i 6]
      exact ih (i + 6) M (by omega) (by omega) S
    refine z_aload_n F dL_law_27 rfl ?_
    refine z_iload_n F dL_law_28 rfl ?_
    refine z_scr F hX hbl hbA (vp_in_nI (by omega) (by omega)) dL_law_29 ?_
    refine z_bipush (v := 63) F dL_law_30 (by decide) ?_
    refine z_iand F dL_law_32 ?_
    exact z_tab34 F dL_law_33 (tgt0 := 184) (tgt1 := 237) (tgt2 := 270) (tgt3 := 313) (tgt4 := 356) (tgt5 := 389) (tgt6 := 422) (tgt7 := 445) (tgt8 := 468) (tgt9 := 491) (tgt10 := 514) (tgt11 := 537) (tgt12 := 550) (tgt13 := 563) (tgt14 := 576) (tgt15 := 589) (tgt16 := 612) (tgt17 := 635) (tgt18 := 648) (tgt19 := 681) (tgt20 := 714) (tgt21 := 747) (tgt22 := 780) (tgt23 := 803) (tgt24 := 826) (tgt25 := 859) (tgt26 := 872) (tgt27 := 885) (tgt28 := 938) (tgt29 := 981) (tgt30 := 1024) (tgt31 := 1067) (tgt32 := 1090) (tgt33 := 1173) (dt := 1236) (by decide) (by decide) (by decide) (by decide) (by decide) (by decide) (by decide) (by decide) (by decide) (by decide) (by decide) (by decide) (by decide) (by decide) (by decide) (by decide) (by decide) (by decide) (by decide) (by decide) (by decide) (by decide) (by decide) (by decide) (by decide) (by decide) (by decide) (by decide) (by decide) (by decide) (by decide) (by decide) (by decide) (by decide) (by decide) (fun _ => lc_thing F J hX hbl hbA h6 hL S K) (fun _ => lc_of F J hX hbl hbA h6 hL S K) (fun _ => lc_felt F J hX hbl hbA h6 hL S K) (fun _ => lc_person F J hX hbl hbA h6 hL S K) (fun _ => lc_told F J hX hbl hbA h6 hL S K) (fun _ => lc_move F J hX hbl hbA h6 hL S K) (fun _ => lc_take F J hX hbl hbA h6 hL S K) (fun _ => lc_count F J hX hbl hbA h6 hL S K) (fun _ => lc_heed F J hX hbl hbA h6 hL S K) (fun _ => lc_well F J hX hbl hbA h6 hL S K) (fun _ => lc_type F J hX hbl hbA h6 hL S K) (fun _ => lc_road F J hX hbl hbA h6 hL S K) (fun _ => lc_go F J hX hbl hbA h6 hL S K) (fun _ => lc_undo F J hX hbl hbA h6 hL S K) (fun _ => lc_again F J hX hbl hbA h6 hL S K) (fun _ => lc_glad F J hX hbl hbA h6 hL S K) (fun _ => lc_home F J hX hbl hbA h6 hL S K) (fun _ => lc_lost F J hX hbl hbA h6 hL S K) (fun _ => lc_lurk F J hX hbl hbA h6 hL S K) (fun _ => lc_stand F J hX hbl hbA h6 hL S K) (fun _ => lc_sister F J hX hbl hbA h6 hL S K) (fun _ => lc_meet F J hX hbl hbA h6 hL S K) (fun _ => lc_first F J hX hbl hbA h6 hL S K) (fun _ => lc_cheated F J hX hbl hbA h6 hL S K) (fun _ => lc_chance F J hX hbl hbA h6 hL S K) (fun _ => lc_image F J hX hbl hbA h6 hL S K) (fun _ => lc_restore F J hX hbl hbA h6 hL S K) (fun _ => lc_seen F J hX hbl hbA h6 hL S K) (fun _ => lc_film F J hX hbl hbA h6 hL S K) (fun _ => lc_deal F J hX hbl hbA h6 hL S K) (fun _ => lc_sheet F J hX hbl hbA h6 hL S K) (fun _ => lc_drop F J hX hbl hbA h6 hL S K) (fun _ => lc_item F J hX hbl hbA h6 hL S K) (fun _ => lc_copy F J hX hbl hbA h6 hL S K) (fun _ _ _ _ _ _ _ _ _ _ _ _ _ _ _ _ _ _ _ _ _ _ _ _ _ _ _ _ _ _ _ _ _ _ => K _ S)
theorem law_body {w : zE} {g : zG} {b L : Nat} {xs : Nat → Int32} (F : zF w g RL cL_law 4 1000) (J : zJ w) (hL : L ≤ 3072) (hX : va_X b L xs g.2.1.1 g.2.1.1.heap) (hbl : b < g.2.1.1.heap.size) (hbA : ¬ g.2.2.2.1 b) (E : ∀ lv M, ZW w g 4 1242 lv [] M) : ZW w g 4 15 [some (.ref b), some (.ref (w.2.2 0)), none, none] [.ref (w.2.2 138)] M1 := by
  refine z_astore_n (lv' := [_, _, _, _]) F dL_law_15 (by decide) rfl rfl ?_
  refine z_iconst (v := 0) F dL_law_16 (by decide) ?_
  refine z_istore_n (lv' := [_, _, _, _]) F dL_law_17 (by decide) rfl rfl ?_
  exact law_loop F J hL hX hbl hbA E L 0 M1 (by omega) (by omega) sim_0
set_option maxHeartbeats 4000000 in
theorem whole_start {p : Program} {e : Env} {s : State} {m : MethodId} {below : List Frame} {meth : Method} {c : Code} (l : Launch) {b L : Nat} {xs : Nat → Int32} (hL : L ≤ 3072) (C0 : lw_At p s m meth c b L xs) : W p l e room_1 s m #[Value.ref b] below meth c s.heap [] 0 0 (lw_Z below #[Value.ref b] s) (entryFrame m ([Value.ref b] : List Value).toArray 4) := by
  obtain ⟨hx, hb, hr, hml, hown, hts, hX, hbl, hlocks, hgv⟩ := C0
  obtain ⟨D, cA, hK⟩ := st_K hts
  obtain ⟨a, b2, hT0⟩ := st_T hts hgv
  have hT := hT0 D cA
  have hXs := st_X hts
  have hw : ∀ q ∈ zTb, q.before #[Value.ref b] s = true := fun q hq => hts q (List.mem_filter.mp hq).1
  have hl := lv_entry [Value.ref b] (n := 4) (Nat.le_of_ble_eq_true rfl)
  rw [lg_entry_eq]
  have hbA : ¬ bA s.heap.size b := fun q => Nat.not_le.mpr hbl q
  have E : ∀ lv M, ZW (zw D cA s.heap.size a b2) ((p, l, e, room_1), (s, m, #[Value.ref b], below), (meth, c, 154, 1768), (bA s.heap.size, lw_Z below #[Value.ref b] s)) 4 1242 lv [] M := fun lv M => lw_end hx hb hr hlocks
  have F2 : zF (zw D cA s.heap.size a b2) ((p, l, e, room_1), (s, m, #[Value.ref b], below), (meth, c, 154, 1768), (bA s.heap.size, lw_Z below #[Value.ref b] s)) RL cL_law 4 1000 := ⟨hx, hb, hml, hown, hw, hlocks, hK, zw_J, fun i hi => zw_A hi, by show 1000 ≤ 2048; decide, by show 60 * 1000 ≤ 84000; decide, by show 154 ≤ 600000; decide, by show 1768 ≤ 7302250; decide, hT⟩
  have F : bF (zw D cA s.heap.size a b2) s.heap.size 0 ((p, l, e, room_1), (s, m, #[Value.ref b], below), (meth, c, 154, 1768), (bA s.heap.size, lw_Z below #[Value.ref b] s)) RL cL_law 4 1000 := ⟨hx, hb, hml, hown, hw, hlocks, hK, rfl, by show 1000 ≤ 2048; decide, by show 60 * 1000 ≤ 84000; decide, hXs⟩
  have Z : BW (zw D cA s.heap.size a b2) s.heap.size 0 ((p, l, e, room_1), (s, m, #[Value.ref b], below), (meth, c, 154, 1768), (bA s.heap.size, lw_Z below #[Value.ref b] s)) 4 0 [some (.ref b), none, none, none] [] (fun _ => .inr (0, [])) 0 0 := by
    refine b_new (ci := 7) (fs := [.null, .null, .int 0, .null, .null, .null]) (j := 0) F bc_L_7 bi_X7 bj_X7 izX7 tyX7 tyX7_ok rfl bd_X7 (by show 0 + 1 ≤ 600000; decide) (by show 0 + 6 ≤ 7302250; decide) rfl dL_law_0 ?_
    refine b_dup F dL_law_3 rfl ?_
    refine b_callI F (c_X7_init l (zw D cA s.heap.size a b2) s.heap.size 0 _ (va_up_self _ _ _)) rfl zm_X7_init bm_X7 rfl bl_L_9 (Nat.le_of_ble_eq_true rfl) dL_law_4 (by decide) (by show 1 + 137 ≤ 600000; decide) (by show 6 + 1061 ≤ 7302250; decide) ?_
    refine b_astore (lv' := [_, _, _, _]) F dL_law_7 (by decide) rfl rfl ?_
    refine b_new (ci := 8) (fs := d8L) (j := 138) F bc_L_10 bi_X8 bj_X8 izX8 tyX8 tyX8_ok rfl bd_X8 (by show 138 + 1 ≤ 600000; decide) (by show 1067 + 30 ≤ 7302250; decide) rfl dL_law_8 ?_
    refine b_dup F dL_law_11 rfl ?_
    exact b_call8 (sl := 1097) F hT bl_L_12 (Nat.le_of_ble_eq_true rfl) dL_law_12 (by decide) (by show 139 + 15 ≤ 600000; decide) (by show 1097 + 671 ≤ 7302250; decide) (fun H1 locs1 ls hl hP hS => law_body F2 zw_J hL hX hbl hbA E H1 locs1 ls hl hP hS)
  exact Z s.heap [] _ hl (fun k hk => absurd hk (by omega)) va_S.rf
