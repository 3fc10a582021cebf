theorem c_J0_coder {l : Launch} {w : zE} (J : zJ w) {M : zM} : zCi l w yJ0_coder_7d493 cJ0_coder_7d493 1 (some .byte) 0 [.ref (w.2.2 200)] M (fun v M2 => M2 = M ∧ v = 0) := by
  refine zCi_of J zm_J0_coder_7d493 [some (.ref (w.2.2 200))] (Nat.le_of_ble_eq_true rfl) rfl (fun g hg F X => ?_)
  subst hg
  refine z_gcs F fl_J0_38 dJ0_coder_7d493_0 ?_
  refine z_if_eq (tgt := 13) F dJ0_coder_7d493_3 (by decide) (fun h_3 => absurd h_3 (by decide)) (fun h_3 => ?_)
  refine z_aload_n F dJ0_coder_7d493_6 rfl ?_
  refine z_scod F fl_J0_15 dJ0_coder_7d493_7 ?_
  refine z_goto (tgt := 14) F dJ0_coder_7d493_10 (by decide) ?_
  refine z_zret F X dJ0_coder_7d493_14 (by decide) ?_
  exact ⟨rfl, rfl⟩
theorem c_J0_isLatin1 {l : Launch} {w : zE} (J : zJ w) {M : zM} : zCi l w yJ0_isLatin1_aae02 cJ0_isLatin1_aae02 1 (some .boolean) 0 [.ref (w.2.2 200)] M (fun v M2 => M2 = M ∧ v = 1) := by
  refine zCi_of J zm_J0_isLatin1_aae02 [some (.ref (w.2.2 200))] (Nat.le_of_ble_eq_true rfl) rfl (fun g hg F X => ?_)
  subst hg
  refine z_gcs F fl_J0_38 dJ0_isLatin1_aae02_0 ?_
  refine z_if_eq (tgt := 17) F dJ0_isLatin1_aae02_3 (by decide) (fun h_3 => absurd h_3 (by decide)) (fun h_3 => ?_)
  refine z_aload_n F dJ0_isLatin1_aae02_6 rfl ?_
  refine z_scod F fl_J0_15 dJ0_isLatin1_aae02_7 ?_
  refine z_if_ne (tgt := 17) F dJ0_isLatin1_aae02_10 (by decide) (fun h_10 => absurd h_10 (by decide)) (fun h_10 => ?_)
  refine z_iconst (v := 1) F dJ0_isLatin1_aae02_13 (by decide) ?_
  refine z_goto (tgt := 18) F dJ0_isLatin1_aae02_14 (by decide) ?_
  refine z_zret F X dJ0_isLatin1_aae02_18 (by decide) ?_
  exact ⟨rfl, rfl⟩
theorem c_J0_length {l : Launch} {w : zE} (J : zJ w) {M : zM} : zCi l w yJ0_length_8abf5 cJ0_length_8abf5 1 (some .int) 1 [.ref (w.2.2 200)] M (fun v M2 => M2 = M ∧ v = 4) := by
  refine zCi_of J zm_J0_length_8abf5 [some (.ref (w.2.2 200))] (Nat.le_of_ble_eq_true rfl) rfl (fun g hg F X => ?_)
  subst hg
  refine z_aload_n F dJ0_length_8abf5_0 rfl ?_
  refine z_sval F fl_J0_9 dJ0_length_8abf5_1 ?_
  refine z_slen F dJ0_length_8abf5_4 ?_
  refine z_aload_n F dJ0_length_8abf5_5 rfl ?_
  refine z_callSt F (c_J0_coder J) zm_J0_coder_7d493 zv_J0_coder_7d493 ml_J0_335 rfl rfl rfl (Nat.le_of_ble_eq_true rfl) dJ0_length_8abf5_6 (by omega) (fun r_6 M_6 h_6 => ?_)
  obtain ⟨e_6, rfl⟩ := h_6
  replace e_6 := Eq.symm e_6
  subst e_6
  refine z_ishr F dJ0_length_8abf5_9 ?_
  refine z_iret F X dJ0_length_8abf5_10 ?_
  exact ⟨rfl, by decide⟩
theorem c_J1_canEncode {l : Launch} {w : zE} (J : zJ w) {M : zM} {c : Int32} : zCi l w yJ1_canEncode_9a6ad cJ1_canEncode_9a6ad 1 (some .boolean) 0 [.int c] M (fun v M2 => M2 = M ∧ v = bI (0 ≤ c ∧ c ≤ 255)) := by
  refine zCi_of J zm_J1_canEncode_9a6ad [some (.int c)] (Nat.le_of_ble_eq_true rfl) rfl (fun g hg F X => ?_)
  subst hg
  refine z_iload_n F dJ1_canEncode_9a6ad_0 rfl ?_
  refine z_if_lt (tgt := 15) F dJ1_canEncode_9a6ad_1 (by decide) (fun h_1 => ?_) (fun h_1 => ?_)
  · refine z_iconst (v := 0) F dJ1_canEncode_9a6ad_15 (by decide) ?_
    refine z_zret F X dJ1_canEncode_9a6ad_16 (by decide) ?_
    refine ⟨rfl, ?_⟩
    first | exact bI_t ⟨h_1, h_8⟩ | exact bI_f (fun q => nle h_1 q.1) | exact bI_f (fun q => nle h_8 q.2)
  · refine z_iload_n F dJ1_canEncode_9a6ad_4 rfl ?_
    refine z_sipush (v := 255) F dJ1_canEncode_9a6ad_5 (by decide) ?_
    refine z_ic_gt (tgt := 15) F dJ1_canEncode_9a6ad_8 (by decide) (fun h_8 => ?_) (fun h_8 => ?_)
    · refine z_iconst (v := 0) F dJ1_canEncode_9a6ad_15 (by decide) ?_
      refine z_zret F X dJ1_canEncode_9a6ad_16 (by decide) ?_
      refine ⟨rfl, ?_⟩
      first | exact bI_t ⟨h_1, h_8⟩ | exact bI_f (fun q => nle h_1 q.1) | exact bI_f (fun q => nle h_8 q.2)
    · refine z_iconst (v := 1) F dJ1_canEncode_9a6ad_11 (by decide) ?_
      refine z_goto (tgt := 16) F dJ1_canEncode_9a6ad_12 (by decide) ?_
      refine z_zret F X dJ1_canEncode_9a6ad_16 (by decide) ?_
      refine ⟨rfl, ?_⟩
      first | exact bI_t ⟨h_1, h_8⟩ | exact bI_f (fun q => nle h_1 q.1) | exact bI_f (fun q => nle h_8 q.2)
/-- a kind by its letter, or -1 -/
def kndF (c : Int32) : Int32 := if c = 112 then 0 else if c = 98 then 1 else if c = 117 then 2 else if c = 109 then 3 else -1
theorem c_J1_indexOfChar {l : Launch} {w : zE} (J : zJ w) {M : zM} {c : Nat} (hc : c < 128) : zCi l w yJ1_indexOfChar_4cfef cJ1_indexOfChar_4cfef 6 (some .int) 0 [.ref (w.2.2 201), .int (nI c), .int 0, .int 4] M (fun v M2 => M2 = M ∧ v = kndF (nI c)) := by
  have hb : (nI c).toInt8.toInt32 = nI c := (by decide +kernel : ∀ c, c < 128 → (nI c).toInt8.toInt32 = nI c) c hc
  refine zCi_of J zm_J1_indexOfChar_4cfef [some (.ref (w.2.2 201)), some (.int (nI c)), some (.int 0), some (.int 4), none, none] (Nat.le_of_ble_eq_true rfl) rfl (fun g hg F X => ?_)
  subst hg
  refine z_iload_n F dJ1_indexOfChar_4cfef_0 rfl ?_
  refine z_i2b F dJ1_indexOfChar_4cfef_1 ?_
  rw [hb]
  refine z_istore (lv' := [_, _, _, _, _, _]) F dJ1_indexOfChar_4cfef_2 (by decide) rfl rfl ?_
  refine z_iload_n F dJ1_indexOfChar_4cfef_4 rfl ?_
  refine z_istore (lv' := [_, _, _, _, _, _]) F dJ1_indexOfChar_4cfef_5 (by decide) rfl rfl ?_
  refine z_iload F dJ1_indexOfChar_4cfef_7 rfl ?_
  refine z_iload_n F dJ1_indexOfChar_4cfef_9 rfl ?_
  refine z_ic_ge (tgt := 31) F dJ1_indexOfChar_4cfef_10 (by decide) (fun h_10 => absurd h_10 (by decide)) (fun h_10 => ?_)
  refine z_aload_n F dJ1_indexOfChar_4cfef_13 rfl ?_
  refine z_iload F dJ1_indexOfChar_4cfef_14 rfl ?_
  refine z_sby F (vpl 4 (by decide) (by decide)) dJ1_indexOfChar_4cfef_16 ?_
  refine z_iload F dJ1_indexOfChar_4cfef_17 rfl ?_
  refine z_ic_ne (tgt := 25) F dJ1_indexOfChar_4cfef_19 (by decide) (fun h_19 => ?_) (fun h_19 => ?_)
  · refine z_iincc (c := 1) (lv' := [_, _, _, _, _, _]) F dJ1_indexOfChar_4cfef_25 rfl (by decide) (by decide) rfl rfl ?_
    refine z_goto (tgt := 7) F dJ1_indexOfChar_4cfef_28 (by decide) ?_
    refine z_iload F dJ1_indexOfChar_4cfef_7 rfl ?_
    refine z_iload_n F dJ1_indexOfChar_4cfef_9 rfl ?_
    refine z_ic_ge (tgt := 31) F dJ1_indexOfChar_4cfef_10 (by decide) (fun h_10x => absurd h_10x (by decide)) (fun h_10x => ?_)
    refine z_aload_n F dJ1_indexOfChar_4cfef_13 rfl ?_
    refine z_iload F dJ1_indexOfChar_4cfef_14 rfl ?_
    refine z_sby F (vpl 4 (by decide) (by decide)) dJ1_indexOfChar_4cfef_16 ?_
    refine z_iload F dJ1_indexOfChar_4cfef_17 rfl ?_
    refine z_ic_ne (tgt := 25) F dJ1_indexOfChar_4cfef_19 (by decide) (fun h_19x => ?_) (fun h_19x => ?_)
    · refine z_iincc (c := 1) (lv' := [_, _, _, _, _, _]) F dJ1_indexOfChar_4cfef_25 rfl (by decide) (by decide) rfl rfl ?_
      refine z_goto (tgt := 7) F dJ1_indexOfChar_4cfef_28 (by decide) ?_
      refine z_iload F dJ1_indexOfChar_4cfef_7 rfl ?_
      refine z_iload_n F dJ1_indexOfChar_4cfef_9 rfl ?_
      refine z_ic_ge (tgt := 31) F dJ1_indexOfChar_4cfef_10 (by decide) (fun h_10xx => absurd h_10xx (by decide)) (fun h_10xx => ?_)
      refine z_aload_n F dJ1_indexOfChar_4cfef_13 rfl ?_
      refine z_iload F dJ1_indexOfChar_4cfef_14 rfl ?_
      refine z_sby F (vpl 4 (by decide) (by decide)) dJ1_indexOfChar_4cfef_16 ?_
      refine z_iload F dJ1_indexOfChar_4cfef_17 rfl ?_
      refine z_ic_ne (tgt := 25) F dJ1_indexOfChar_4cfef_19 (by decide) (fun h_19xx => ?_) (fun h_19xx => ?_)
      · refine z_iincc (c := 1) (lv' := [_, _, _, _, _, _]) F dJ1_indexOfChar_4cfef_25 rfl (by decide) (by decide) rfl rfl ?_
        refine z_goto (tgt := 7) F dJ1_indexOfChar_4cfef_28 (by decide) ?_
        refine z_iload F dJ1_indexOfChar_4cfef_7 rfl ?_
        refine z_iload_n F dJ1_indexOfChar_4cfef_9 rfl ?_
        refine z_ic_ge (tgt := 31) F dJ1_indexOfChar_4cfef_10 (by decide) (fun h_10xxx => absurd h_10xxx (by decide)) (fun h_10xxx => ?_)
        refine z_aload_n F dJ1_indexOfChar_4cfef_13 rfl ?_
        refine z_iload F dJ1_indexOfChar_4cfef_14 rfl ?_
        refine z_sby F (vpl 4 (by decide) (by decide)) dJ1_indexOfChar_4cfef_16 ?_
        refine z_iload F dJ1_indexOfChar_4cfef_17 rfl ?_
        refine z_ic_ne (tgt := 25) F dJ1_indexOfChar_4cfef_19 (by decide) (fun h_19xxx => ?_) (fun h_19xxx => ?_)
        · refine z_iincc (c := 1) (lv' := [_, _, _, _, _, _]) F dJ1_indexOfChar_4cfef_25 rfl (by decide) (by decide) rfl rfl ?_
          refine z_goto (tgt := 7) F dJ1_indexOfChar_4cfef_28 (by decide) ?_
          refine z_iload F dJ1_indexOfChar_4cfef_7 rfl ?_
          refine z_iload_n F dJ1_indexOfChar_4cfef_9 rfl ?_
          refine z_ic_ge (tgt := 31) F dJ1_indexOfChar_4cfef_10 (by decide) (fun h_10xxxx => ?_) (fun h_10xxxx => absurd h_10xxxx (by decide))
          refine z_iconst (v := (-1)) F dJ1_indexOfChar_4cfef_31 (by decide) ?_
          refine z_iret F X dJ1_indexOfChar_4cfef_32 ?_
          refine ⟨rfl, ?_⟩
          unfold kndF
          simp_all <;> grind
        · refine z_iload F dJ1_indexOfChar_4cfef_22 rfl ?_
          refine z_iret F X dJ1_indexOfChar_4cfef_24 ?_
          refine ⟨rfl, ?_⟩
          unfold kndF
          simp_all <;> grind
      · refine z_iload F dJ1_indexOfChar_4cfef_22 rfl ?_
        refine z_iret F X dJ1_indexOfChar_4cfef_24 ?_
        refine ⟨rfl, ?_⟩
        unfold kndF
        simp_all <;> grind
    · refine z_iload F dJ1_indexOfChar_4cfef_22 rfl ?_
      refine z_iret F X dJ1_indexOfChar_4cfef_24 ?_
      refine ⟨rfl, ?_⟩
      unfold kndF
      simp_all <;> grind
  · refine z_iload F dJ1_indexOfChar_4cfef_22 rfl ?_
    refine z_iret F X dJ1_indexOfChar_4cfef_24 ?_
    refine ⟨rfl, ?_⟩
    unfold kndF
    simp_all <;> grind
theorem c_J1_indexOf {l : Launch} {w : zE} (J : zJ w) {M : zM} {c : Nat} (hc : c < 128) : zCi l w yJ1_indexOf_4cfef cJ1_indexOf_4cfef 4 (some .int) 1 [.ref (w.2.2 201), .int (nI c), .int 0, .int 4] M (fun v M2 => M2 = M ∧ v = kndF (nI c)) := by
  refine zCi_of J zm_J1_indexOf_4cfef [some (.ref (w.2.2 201)), some (.int (nI c)), some (.int 0), some (.int 4)] (Nat.le_of_ble_eq_true rfl) rfl (fun g hg F X => ?_)
  subst hg
  refine z_iload_n F dJ1_indexOf_4cfef_0 rfl ?_
  refine z_callSi F (c_J1_canEncode J) zm_J1_canEncode_9a6ad zst_J1_canEncode_9a6ad ml_J1_88 rfl rfl (Nat.le_of_ble_eq_true rfl) dJ1_indexOf_4cfef_1 (by omega) (fun r_1 M_1 h_1 => ?_)
  obtain ⟨e_1, rfl⟩ := h_1
  replace e_1 := Eq.symm e_1
  subst e_1
  refine z_if_ne (tgt := 9) F dJ1_indexOf_4cfef_4 (by decide) (fun h_4 => ?_) (fun h_4 => ?_)
  · replace h_4 := bI_1.mp h_4
    refine z_iload_n F dJ1_indexOf_4cfef_9 rfl ?_
    refine z_iconst (v := 0) F dJ1_indexOf_4cfef_10 (by decide) ?_
    refine z_max F mm_J1_92 (Nat.le_of_ble_eq_true rfl) dJ1_indexOf_4cfef_11 (by omega) ?_
    refine z_istore_n (lv' := [_, _, _, _]) F dJ1_indexOf_4cfef_14 (by decide) rfl rfl ?_
    refine z_iload_n F dJ1_indexOf_4cfef_15 rfl ?_
    refine z_aload_n F dJ1_indexOf_4cfef_16 rfl ?_
    refine z_slen F dJ1_indexOf_4cfef_17 ?_
    refine z_min F mm_J1_38 (Nat.le_of_ble_eq_true rfl) dJ1_indexOf_4cfef_18 (by omega) ?_
    refine z_istore_n (lv' := [_, _, _, _]) F dJ1_indexOf_4cfef_21 (by decide) rfl rfl ?_
    refine z_iload_n F dJ1_indexOf_4cfef_22 rfl ?_
    refine z_iload_n F dJ1_indexOf_4cfef_23 rfl ?_
    refine z_ic_lt (tgt := 29) F dJ1_indexOf_4cfef_24 (by decide) (fun h_24 => ?_) (fun h_24 => absurd h_24 (by decide))
    refine z_aload_n F dJ1_indexOf_4cfef_29 rfl ?_
    refine z_iload_n F dJ1_indexOf_4cfef_30 rfl ?_
    refine z_iload_n F dJ1_indexOf_4cfef_31 rfl ?_
    refine z_iload_n F dJ1_indexOf_4cfef_32 rfl ?_
    refine z_callSi F (c_J1_indexOfChar J hc) zm_J1_indexOfChar_4cfef zst_J1_indexOfChar_4cfef ml_J1_95 rfl rfl (Nat.le_of_ble_eq_true rfl) dJ1_indexOf_4cfef_33 (by omega) (fun r_33 M_33 h_33 => ?_)
    obtain ⟨e_33, rfl⟩ := h_33
    replace e_33 := Eq.symm e_33
    subst e_33
    refine z_iret F X dJ1_indexOf_4cfef_36 ?_
    exact ⟨rfl, rfl⟩
  · replace h_4 := bI_0.mp h_4
    refine z_iconst (v := (-1)) F dJ1_indexOf_4cfef_7 (by decide) ?_
    refine z_iret F X dJ1_indexOf_4cfef_8 ?_
    exact absurd ⟨nI_pos' (by omega), nI_le (b := 255) (by omega) (by decide)⟩ h_4
theorem c_J0_indexOf2 {l : Launch} {w : zE} (J : zJ w) {M : zM} {c : Nat} (hc : c < 128) : zCi l w yJ0_indexOf_7cf53 cJ0_indexOf_7cf53 3 (some .int) 2 [.ref (w.2.2 200), .int (nI c), .int 0] M (fun v M2 => M2 = M ∧ v = kndF (nI c)) := by
  refine zCi_of J zm_J0_indexOf_7cf53 [some (.ref (w.2.2 200)), some (.int (nI c)), some (.int 0)] (Nat.le_of_ble_eq_true rfl) rfl (fun g hg F X => ?_)
  subst hg
  refine z_aload_n F dJ0_indexOf_7cf53_0 rfl ?_
  refine z_callSt F (c_J0_isLatin1 J) zm_J0_isLatin1_aae02 zv_J0_isLatin1_aae02 ml_J0_492 rfl rfl rfl (Nat.le_of_ble_eq_true rfl) dJ0_indexOf_7cf53_1 (by omega) (fun r_1 M_1 h_1 => ?_)
  obtain ⟨e_1, rfl⟩ := h_1
  replace e_1 := Eq.symm e_1
  subst e_1
  refine z_if_eq (tgt := 23) F dJ0_indexOf_7cf53_4 (by decide) (fun h_4 => absurd h_4 (by decide)) (fun h_4 => ?_)
  refine z_aload_n F dJ0_indexOf_7cf53_7 rfl ?_
  refine z_sval F fl_J0_9 dJ0_indexOf_7cf53_8 ?_
  refine z_iload_n F dJ0_indexOf_7cf53_11 rfl ?_
  refine z_iload_n F dJ0_indexOf_7cf53_12 rfl ?_
  refine z_aload_n F dJ0_indexOf_7cf53_13 rfl ?_
  refine z_callSt F (c_J0_length J) zm_J0_length_8abf5 zv_J0_length_8abf5 ml_J0_505 rfl rfl rfl (Nat.le_of_ble_eq_true rfl) dJ0_indexOf_7cf53_14 (by omega) (fun r_14 M_14 h_14 => ?_)
  obtain ⟨e_14, rfl⟩ := h_14
  replace e_14 := Eq.symm e_14
  subst e_14
  refine z_callSi F (c_J1_indexOf J hc) zm_J1_indexOf_4cfef zst_J1_indexOf_4cfef ml_J0_637 rfl rfl (Nat.le_of_ble_eq_true rfl) dJ0_indexOf_7cf53_17 (by omega) (fun r_17 M_17 h_17 => ?_)
  obtain ⟨e_17, rfl⟩ := h_17
  replace e_17 := Eq.symm e_17
  subst e_17
  refine z_goto (tgt := 36) F dJ0_indexOf_7cf53_20 (by decide) ?_
  refine z_iret F X dJ0_indexOf_7cf53_36 ?_
  exact ⟨rfl, rfl⟩
theorem c_J0_indexOf {l : Launch} {w : zE} (J : zJ w) {M : zM} {c : Nat} (hc : c < 128) : zCi l w yJ0_indexOf_0f7a4 cJ0_indexOf_0f7a4 2 (some .int) 3 [.ref (w.2.2 200), .int (nI c)] M (fun v M2 => M2 = M ∧ v = kndF (nI c)) := by
  refine zCi_of J zm_J0_indexOf_0f7a4 [some (.ref (w.2.2 200)), some (.int (nI c))] (Nat.le_of_ble_eq_true rfl) rfl (fun g hg F X => ?_)
  subst hg
  refine z_aload_n F dJ0_indexOf_0f7a4_0 rfl ?_
  refine z_iload_n F dJ0_indexOf_0f7a4_1 rfl ?_
  refine z_iconst (v := 0) F dJ0_indexOf_0f7a4_2 (by decide) ?_
  refine z_callSt F (c_J0_indexOf2 J hc) zm_J0_indexOf_7cf53 zv_J0_indexOf_7cf53 ml_J0_633 rfl rfl rfl (Nat.le_of_ble_eq_true rfl) dJ0_indexOf_0f7a4_3 (by omega) (fun r_3 M_3 h_3 => ?_)
  obtain ⟨e_3, rfl⟩ := h_3
  replace e_3 := Eq.symm e_3
  subst e_3
  refine z_iret F X dJ0_indexOf_0f7a4_6 ?_
  exact ⟨rfl, rfl⟩
