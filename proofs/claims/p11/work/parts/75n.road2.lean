/-! the reference's road, walked -/
theorem hisF_f {L : zF1} {len p : Nat} {nt : Int32} {T : zF1} {np : Nat} (h : ¬ rdB L len p 61) : hisF L len p nt T np = (0, rdP L len p 61, 0) := if_neg h
theorem hisF_n {L : zF1} {len p : Nat} {nt : Int32} {T : zF1} {np : Nat} (h : rdB L len p 61) (q : (freeF L len (rdP L len p 61) nt T np).1 < 0) : hisF L len p nt T np = (0, (freeF L len (rdP L len p 61) nt T np).2, 0) := by unfold hisF; rw [if_pos h, if_pos q]
theorem hisF_y {L : zF1} {len p : Nat} {nt : Int32} {T : zF1} {np : Nat} (h : rdB L len p 61) (q : ¬ (freeF L len (rdP L len p 61) nt T np).1 < 0) : hisF L len p nt T np = (1, (freeF L len (rdP L len p 61) nt T np).2, (freeF L len (rdP L len p 61) nt T np).1) := by unfold hisF; rw [if_pos h, if_neg q]
abbrev endQ (R : Int32 × Nat × zRd) (L : zF1) (len p n m : Nat) (th rp : zF1) (wr hv : Int32) : Prop := (wr = 1 ∧ R.1 = 0 ∧ R.2.1 = p) ∨ (wr = 0 ∧ R = endF L len p (n, th, m, peR rp, va_up (TR rp) 0 hv))
/-- what he has: told, or a fault -/
theorem his_n {R : Int32 × Nat × zRd} {L : zF1} {len p n m : Nat} {th rp : zF1} {hv : Int32} (hR : R = hisE L len p (n, th, m, peR rp, TR rp)) (h : rdB L len p 61) (q : (freeF L len (rdP L len p 61) (nI n) (TR rp) m).1 < 0) : endQ R L len (freeF L len (rdP L len p 61) (nI n) (TR rp) m).2 n m th rp 1 hv := by
  refine Or.inl ⟨rfl, ?_⟩
  rw [hR, hisE]
  dsimp only
  rw [hisF_n h q, if_pos rfl]
  exact ⟨rfl, rfl⟩
theorem his_f {R : Int32 × Nat × zRd} {L : zF1} {len p n m : Nat} {th rp : zF1} {hv : Int32} (hR : R = hisE L len p (n, th, m, peR rp, TR rp)) (h : ¬ rdB L len p 61) : endQ R L len (rdP L len p 61) n m th rp 1 hv := by
  refine Or.inl ⟨rfl, ?_⟩
  rw [hR, hisE]
  dsimp only
  rw [hisF_f h, if_pos rfl]
  exact ⟨rfl, rfl⟩
theorem his_y {R : Int32 × Nat × zRd} {L : zF1} {len p n m : Nat} {th rp : zF1} {hv : Int32} (hR : R = hisE L len p (n, th, m, peR rp, TR rp)) (h : rdB L len p 61) (q : ¬ (freeF L len (rdP L len p 61) (nI n) (TR rp) m).1 < 0) (e : hv = (freeF L len (rdP L len p 61) (nI n) (TR rp) m).1) : endQ R L len (freeF L len (rdP L len p 61) (nI n) (TR rp) m).2 n m th rp 0 hv := by
  refine Or.inr ⟨rfl, ?_⟩
  rw [hR, hisE]
  dsimp only
  rw [hisF_y h q, if_neg (show ¬ (1 : Int32) = 0 by decide), e]
theorem TR_id (rp : zF1) : va_up (TR rp) 0 (-4) = TR rp := va_up_id (TR rp) 0
theorem c_X8_road {l : Launch} {w : zE} (J : zJ w) {M : zM} {len : Nat} (hl : M.1 138 10 = nI len) (h120 : len ≤ 120) : zCi l w yX8_road cX8_road 3 (some .int) 3 [.ref (w.2.2 138)] M (fun r M2 => ((roadF (M.1 142) len (M.1 143) (peR (M.1 144)) (TR (M.1 144))).1 = 0 ∧ r = -20 - nI (roadF (M.1 142) len (M.1 143) (peR (M.1 144)) (TR (M.1 144))).2.1 ∧ RF M M2) ∨ (¬ (roadF (M.1 142) len (M.1 143) (peR (M.1 144)) (TR (M.1 144))).1 = 0 ∧ r = nI (roadF (M.1 142) len (M.1 143) (peR (M.1 144)) (TR (M.1 144))).2.2.1 ∧ RD M M2 (roadF (M.1 142) len (M.1 143) (peR (M.1 144)) (TR (M.1 144))).2.2)) := by
  have hk : zk 138 = 8 := by decide
  obtain ⟨hz1, hz2, hz3, hz4, hz5, hz6, hz7, hz8, hz9, hz10, hz11, hz12, hz13, hz14, hz15⟩ := zn8 (show 138 = 138 from rfl)
  refine zCi_of J zm_X8_road [some (.ref (w.2.2 138)), none, none] (Nat.le_of_ble_eq_true rfl) rfl (fun g hg F X => ?_)
  subst hg
  generalize hR : roadF (M.1 142) len (M.1 143) (peR (M.1 144)) (TR (M.1 144)) = R at X
  have hl2 : ∀ v, (zs M 138 15 v).1 138 10 = nI len := fun v => by simp +decide only [zs_g, if_false, hl]
  have hL2 : ∀ v, (zs M 138 15 v).1 142 = M.1 142 := fun v => zs_off _ (by decide)
  generalize hL : M.1 142 = L at hR hL2
  generalize hth0 : M.1 143 = th0 at hR
  generalize hrp0 : M.1 144 = rp0 at hR
  have lp4 : ∀ (n m : Nat) (th rp : zF1) (hv : Int32), m ≤ 8 → (∀ M', FT M M' th rp n m hv n m → ∀ lv, lv[0]? = some (some (.ref (w.2.2 138))) → ZW w g 3 344 lv [] M') → ∀ (j k : Nat) (g1 : Int32) (M' : zM), k + j = m → FT M M' th rp n m hv n k → ZW w g 3 298 [some (.ref (w.2.2 138)), some (.int g1), some (.int (nI k))] [] M' := by
    intro n m th rp hv hm K j
    induction j with
    | zero =>
      intro k g1 M' hkj f
      obtain rfl : k = m := by omega
      have f14 := f.2.2.2.1.2.2.2.2.1
      refine z_iload_n F dX8_road_298 rfl ?_
      refine z_aload_n F dX8_road_299 rfl ?_
      refine zg_X8_manyPeople F (by with_reducible assumption) fl_X8_148 dX8_road_300 ?_
      try simp only [f14]
      refine z_ic_ge (tgt := 344) F dX8_road_303 (by decide) (fun h_303 => ?_) (fun h_303 => absurd h_303 (nlt (Int32.le_refl _)))
      exact K _ f _ rfl
    | succ j ih =>
      intro k g1 M' hkj f
      have f14 := f.2.2.2.1.2.2.2.2.1
      have fr := f.2.2.1.2
      refine z_iload_n F dX8_road_298 rfl ?_
      refine z_aload_n F dX8_road_299 rfl ?_
      refine zg_X8_manyPeople F (by with_reducible assumption) fl_X8_148 dX8_road_300 ?_
      try simp only [f14, show M'.1 (138 + 6) = rp from fr, fr]
      refine z_ic_ge (tgt := 344) F dX8_road_303 (by decide) (fun h_303 => absurd h_303 (nle (nI_lt (by omega) (by omega)))) (fun h_303 => ?_)
      refine z_aload_n F dX8_road_306 rfl ?_
      refine z_aload_n F dX8_road_307 rfl ?_
      refine zg_X8_readPeople F (by with_reducible assumption) fl_X8_25 dX8_road_308 (fun hk_308 => ?_)
      refine z_iconst (v := 3) F dX8_road_311 (by decide) ?_
      refine z_iload_n F dX8_road_312 rfl ?_
      refine z_imul F dX8_road_313 ?_
      refine z_iald10n (q := (3 * k)) F (by with_reducible assumption) (by first | with_reducible rfl | (simp only [n4, n2, n3, n5, n14, n16, na1, na2, na3, nI_add, nI_1, nI_pred]; done) | (simp only [n4, n2, n3, n5, n14, n16, na1, na2, na3, nI_add, nI_1, nI_pred, Nat.add_assoc, Nat.add_comm, Nat.add_left_comm]; done)) (by rw [hz6]; omega) dX8_road_314 ?_
      try simp only [f14, show M'.1 (138 + 6) = rp from fr, fr]
      refine z_aload_n F dX8_road_315 rfl ?_
      refine zg_X8_readPeople F (by with_reducible assumption) fl_X8_25 dX8_road_316 (fun hk_316 => ?_)
      refine z_iconst (v := 3) F dX8_road_319 (by decide) ?_
      refine z_iload_n F dX8_road_320 rfl ?_
      refine z_imul F dX8_road_321 ?_
      refine z_iconst (v := 1) F dX8_road_322 (by decide) ?_
      refine z_iadd F dX8_road_323 ?_
      refine z_iald10n (q := ((3 * k) + 1)) F (by with_reducible assumption) (by first | with_reducible rfl | (simp only [n4, n2, n3, n5, n14, n16, na1, na2, na3, nI_add, nI_1, nI_pred]; done) | (simp only [n4, n2, n3, n5, n14, n16, na1, na2, na3, nI_add, nI_1, nI_pred, Nat.add_assoc, Nat.add_comm, Nat.add_left_comm]; done)) (by rw [hz6]; omega) dX8_road_324 ?_
      try simp only [f14, show M'.1 (138 + 6) = rp from fr, fr]
      refine z_aload_n F dX8_road_325 rfl ?_
      refine zg_X8_readPeople F (by with_reducible assumption) fl_X8_25 dX8_road_326 (fun hk_326 => ?_)
      refine z_iconst (v := 3) F dX8_road_329 (by decide) ?_
      refine z_iload_n F dX8_road_330 rfl ?_
      refine z_imul F dX8_road_331 ?_
      refine z_iconst (v := 2) F dX8_road_332 (by decide) ?_
      refine z_iadd F dX8_road_333 ?_
      refine z_iald10n (q := ((3 * k) + 2)) F (by with_reducible assumption) (by first | with_reducible rfl | (simp only [n4, n2, n3, n5, n14, n16, na1, na2, na3, nI_add, nI_1, nI_pred]; done) | (simp only [n4, n2, n3, n5, n14, n16, na1, na2, na3, nI_add, nI_1, nI_pred, Nat.add_assoc, Nat.add_comm, Nat.add_left_comm]; done)) (by rw [hz6]; omega) dX8_road_334 ?_
      try simp only [f14, show M'.1 (138 + 6) = rp from fr, fr]
      refine z_callVv F (c_X8_personComes J hk rfl f.2.2.2.1.2.1 (by omega)) zm_X8_personComes zv_X8_personComes ml_X8_107 (by with_reducible assumption) (by decide) rfl rfl rfl (Nat.le_of_ble_eq_true rfl) dX8_road_335 (by omega) (fun M_335 h_335 => ?_)
      replace h_335 := Eq.symm h_335
      subst h_335
      refine z_iincc (c := 1) (lv' := [_, _, _]) F dX8_road_338 rfl (by decide) (by decide) rfl rfl ?_
      refine z_goto (tgt := 298) F dX8_road_341 (by decide) ?_
      rw [nI_1]
      exact ih (k + 1) _ _ (by omega) (f.p (by omega))
  have lp3 : ∀ (n m : Nat) (th rp : zF1) (hv : Int32), n ≤ 10 → (∀ M', FT M M' th rp n m hv n 0 → ∀ g1 z, ZW w g 3 296 [some (.ref (w.2.2 138)), some (.int g1), some (.int z)] [] M') → ∀ (j k : Nat) (g1 : Int32) (M' : zM), k + j = n → FT M M' th rp n m hv k 0 → ZW w g 3 240 [some (.ref (w.2.2 138)), some (.int g1), some (.int (nI k))] [] M' := by
    intro n m th rp hv hm K j
    induction j with
    | zero =>
      intro k g1 M' hkj f
      obtain rfl : k = n := by omega
      have f13 := f.2.2.2.1.2.2.2.1
      refine z_iload_n F dX8_road_240 rfl ?_
      refine z_aload_n F dX8_road_241 rfl ?_
      refine zg_X8_manyThings F (by with_reducible assumption) fl_X8_139 dX8_road_242 ?_
      try simp only [f13]
      refine z_ic_ge (tgt := 296) F dX8_road_245 (by decide) (fun h_245 => ?_) (fun h_245 => absurd h_245 (nlt (Int32.le_refl _)))
      exact K _ f _ _
    | succ j ih =>
      intro k g1 M' hkj f
      have f13 := f.2.2.2.1.2.2.2.1
      have fr := f.2.2.1.1
      refine z_iload_n F dX8_road_240 rfl ?_
      refine z_aload_n F dX8_road_241 rfl ?_
      refine zg_X8_manyThings F (by with_reducible assumption) fl_X8_139 dX8_road_242 ?_
      try simp only [f13, show M'.1 (138 + 5) = th from fr, fr]
      refine z_ic_ge (tgt := 296) F dX8_road_245 (by decide) (fun h_245 => absurd h_245 (nle (nI_lt (by omega) (by omega)))) (fun h_245 => ?_)
      refine z_aload_n F dX8_road_248 rfl ?_
      refine z_aload_n F dX8_road_249 rfl ?_
      refine zg_X8_readThings F (by with_reducible assumption) fl_X8_22 dX8_road_250 (fun hk_250 => ?_)
      refine z_iconst (v := 4) F dX8_road_253 (by decide) ?_
      refine z_iload_n F dX8_road_254 rfl ?_
      refine z_imul F dX8_road_255 ?_
      refine z_iald10n (q := (4 * k)) F (by with_reducible assumption) (by first | with_reducible rfl | (simp only [n4, n2, n3, n5, n14, n16, na1, na2, na3, nI_add, nI_1, nI_pred]; done) | (simp only [n4, n2, n3, n5, n14, n16, na1, na2, na3, nI_add, nI_1, nI_pred, Nat.add_assoc, Nat.add_comm, Nat.add_left_comm]; done)) (by rw [hz5]; omega) dX8_road_256 ?_
      try simp only [f13, show M'.1 (138 + 5) = th from fr, fr]
      refine z_aload_n F dX8_road_257 rfl ?_
      refine zg_X8_readThings F (by with_reducible assumption) fl_X8_22 dX8_road_258 (fun hk_258 => ?_)
      refine z_iconst (v := 4) F dX8_road_261 (by decide) ?_
      refine z_iload_n F dX8_road_262 rfl ?_
      refine z_imul F dX8_road_263 ?_
      refine z_iconst (v := 1) F dX8_road_264 (by decide) ?_
      refine z_iadd F dX8_road_265 ?_
      refine z_iald10n (q := ((4 * k) + 1)) F (by with_reducible assumption) (by first | with_reducible rfl | (simp only [n4, n2, n3, n5, n14, n16, na1, na2, na3, nI_add, nI_1, nI_pred]; done) | (simp only [n4, n2, n3, n5, n14, n16, na1, na2, na3, nI_add, nI_1, nI_pred, Nat.add_assoc, Nat.add_comm, Nat.add_left_comm]; done)) (by rw [hz5]; omega) dX8_road_266 ?_
      try simp only [f13, show M'.1 (138 + 5) = th from fr, fr]
      refine z_aload_n F dX8_road_267 rfl ?_
      refine zg_X8_readThings F (by with_reducible assumption) fl_X8_22 dX8_road_268 (fun hk_268 => ?_)
      refine z_iconst (v := 4) F dX8_road_271 (by decide) ?_
      refine z_iload_n F dX8_road_272 rfl ?_
      refine z_imul F dX8_road_273 ?_
      refine z_iconst (v := 2) F dX8_road_274 (by decide) ?_
      refine z_iadd F dX8_road_275 ?_
      refine z_iald10n (q := ((4 * k) + 2)) F (by with_reducible assumption) (by first | with_reducible rfl | (simp only [n4, n2, n3, n5, n14, n16, na1, na2, na3, nI_add, nI_1, nI_pred]; done) | (simp only [n4, n2, n3, n5, n14, n16, na1, na2, na3, nI_add, nI_1, nI_pred, Nat.add_assoc, Nat.add_comm, Nat.add_left_comm]; done)) (by rw [hz5]; omega) dX8_road_276 ?_
      try simp only [f13, show M'.1 (138 + 5) = th from fr, fr]
      refine z_aload_n F dX8_road_277 rfl ?_
      refine zg_X8_readThings F (by with_reducible assumption) fl_X8_22 dX8_road_278 (fun hk_278 => ?_)
      refine z_iconst (v := 4) F dX8_road_281 (by decide) ?_
      refine z_iload_n F dX8_road_282 rfl ?_
      refine z_imul F dX8_road_283 ?_
      refine z_iconst (v := 3) F dX8_road_284 (by decide) ?_
      refine z_iadd F dX8_road_285 ?_
      refine z_iald10n (q := ((4 * k) + 3)) F (by with_reducible assumption) (by first | with_reducible rfl | (simp only [n4, n2, n3, n5, n14, n16, na1, na2, na3, nI_add, nI_1, nI_pred]; done) | (simp only [n4, n2, n3, n5, n14, n16, na1, na2, na3, nI_add, nI_1, nI_pred, Nat.add_assoc, Nat.add_comm, Nat.add_left_comm]; done)) (by rw [hz5]; omega) dX8_road_286 ?_
      try simp only [f13, show M'.1 (138 + 5) = th from fr, fr]
      refine z_callVv F (c_X8_thingComes J hk rfl f.2.2.2.1.1 (by omega)) zm_X8_thingComes zv_X8_thingComes ml_X8_85 (by with_reducible assumption) (by decide) rfl rfl rfl (Nat.le_of_ble_eq_true rfl) dX8_road_287 (by omega) (fun M_287 h_287 => ?_)
      replace h_287 := Eq.symm h_287
      subst h_287
      refine z_iincc (c := 1) (lv' := [_, _, _]) F dX8_road_290 rfl (by decide) (by decide) rfl rfl ?_
      refine z_goto (tgt := 240) F dX8_road_293 (by decide) ?_
      rw [nI_1]
      exact ih (k + 1) _ _ (by omega) f.t
  have E : ∀ (hv g1 wr : Int32) (lv2 : Option Value) (p n m : Nat) (th rp : zF1) (M' : zM), RS (zs M 138 15 hv) M' p wr n m th rp → p ≤ len → n ≤ 10 → m ≤ 8 → endQ R L len p n m th rp wr hv → ZW w g 3 181 [some (.ref (w.2.2 138)), some (.int g1), lv2] [] M' := by
    intro hv g1 wr lv2 p n m th rp M' r hp hn hm hq
    have fail : ∀ (M'' : zM) (q : Nat), RS (zs M 138 15 hv) M'' q 1 n m th rp → R.1 = 0 → R.2.1 = q → ZW w g 3 204 [some (.ref (w.2.2 138)), some (.int g1), lv2] [] M'' := by
      intro M'' q r2 a1 a2
      refine z_aload_n F dX8_road_204 rfl ?_
      refine z_iconst (v := 0) F dX8_road_205 (by decide) ?_
      refine zp_X8_taped F (by with_reducible assumption) fl_X8_121 dX8_road_206 ?_
      refine z_aload_n F dX8_road_209 rfl ?_
      refine zg_X8_wrong F (by with_reducible assumption) fl_X8_127 dX8_road_210 ?_
      try simp +decide only [zs_g, if_false, r2.2.1, r2.2.2.1]
      refine z_if_eq (tgt := 224) F dX8_road_213 (by decide) (fun h_213 => absurd h_213 (by decide)) (fun h_213 => ?_)
      refine z_bipush (v := (-20)) F dX8_road_216 (by decide) ?_
      refine z_aload_n F dX8_road_218 rfl ?_
      refine zg_X8_at F (by with_reducible assumption) fl_X8_124 dX8_road_219 ?_
      try simp +decide only [zs_g, if_false, r2.2.1, r2.2.2.1]
      refine z_isub F dX8_road_222 ?_
      refine z_iret F X dX8_road_223 ?_
      refine Or.inl ⟨a1, by rw [a2], ?_⟩
      obtain ⟨⟨b1, b2, b3⟩, _⟩ := r2
      refine ⟨b1, fun b c1 c2 c3 => ?_, fun k hk2 => ?_, by simp +decide only [zs_g, if_true]⟩
      · rw [zs_off _ c1, b2 b c1 c2 c3, zs_off _ c1]
      · rw [zs_g, if_neg (by omega), b3 k (by omega), zs_g, if_neg (by omega)]
    rcases hq with ⟨rfl, a1, a2⟩ | ⟨rfl, a1⟩
    · refine z_aload_n F dX8_road_181 rfl ?_
      refine z_aload_n F dX8_road_182 rfl ?_
      refine zg_X8_wrong F (by with_reducible assumption) fl_X8_127 dX8_road_183 ?_
      try simp only [r.2.2.1]
      refine z_if_ne (tgt := 196) F dX8_road_186 (by decide) (fun h_186 => ?_) (fun h_186 => absurd h_186 (by decide))
      refine z_iconst (v := 1) F dX8_road_196 (by decide) ?_
      refine z_goto (tgt := 201) F dX8_road_197 (by decide) ?_
      refine zp_X8_wrong F (by with_reducible assumption) fl_X8_127 (by decide) (by decide) dX8_road_201 ?_
      exact fail _ p (r.wr 1) a1 a2
    · have a3 : nxP L (len - p) p ≤ len := by have := nxP_le L (len - p) p; omega
      refine z_aload_n F dX8_road_181 rfl ?_
      refine z_aload_n F dX8_road_182 rfl ?_
      refine zg_X8_wrong F (by with_reducible assumption) fl_X8_127 dX8_road_183 ?_
      try simp only [r.2.2.1]
      refine z_if_ne (tgt := 196) F dX8_road_186 (by decide) (fun h_186 => absurd h_186 (by decide)) (fun h_186 => ?_)
      refine z_aload_n F dX8_road_189 rfl ?_
      refine z_callVi F (p_here J r (hl2 hv) h120 hp) zm_X8_here zv_X8_here ml_X8_131 (by with_reducible assumption) (by decide) rfl rfl rfl (Nat.le_of_ble_eq_true rfl) dX8_road_190 (by omega) (fun r_190 M_190 h_190 => ?_)
      obtain ⟨R_190, e_190⟩ := h_190
      rw [hL2] at R_190 e_190
      subst e_190
      refine z_if_eq (tgt := 200) F dX8_road_193 (by decide) (fun h_193 => ?_) (fun h_193 => ?_)
      · try simp only [r.2.2.1] at h_193
        refine z_iconst (v := 0) F dX8_road_200 (by decide) ?_
        refine zp_X8_wrong F (by with_reducible assumption) fl_X8_127 (by decide) (by decide) dX8_road_201 ?_
        have r2 := R_190.wr 0
        have a4 : R = (1, nxP L (len - p) p, (n, th, m, peR rp, va_up (TR rp) 0 hv)) := by rw [a1, endF, ← bI_t h_193]
        refine z_aload_n F dX8_road_204 rfl ?_
        refine z_iconst (v := 0) F dX8_road_205 (by decide) ?_
        refine zp_X8_taped F (by with_reducible assumption) fl_X8_121 dX8_road_206 ?_
        refine z_aload_n F dX8_road_209 rfl ?_
        refine zg_X8_wrong F (by with_reducible assumption) fl_X8_127 dX8_road_210 ?_
        simp +decide only [zs_g, if_false, if_true]
        refine z_if_eq (tgt := 224) F dX8_road_213 (by decide) (fun h_213 => ?_) (fun h_213 => absurd h_213 (by decide))
        refine z_aload_n F dX8_road_224 rfl ?_
        refine z_iconst (v := 0) F dX8_road_225 (by decide) ?_
        refine zp_X8_things F (by with_reducible assumption) fl_X8_69 dX8_road_226 ?_
        refine z_aload_n F dX8_road_229 rfl ?_
        refine z_iconst (v := 0) F dX8_road_230 (by decide) ?_
        refine zp_X8_people F (by with_reducible assumption) fl_X8_76 dX8_road_231 ?_
        refine z_aload_n F dX8_road_234 rfl ?_
        refine z_callVv F (c_X8_starts J hk rfl) zm_X8_starts zv_X8_starts ml_X8_63 (by with_reducible assumption) (by decide) rfl rfl rfl (Nat.le_of_ble_eq_true rfl) dX8_road_235 (by omega) (fun M_235 h_235 => ?_)
        replace h_235 := Eq.symm h_235
        subst h_235
        refine z_iconst (v := 0) F dX8_road_238 (by decide) ?_
        refine z_istore_n (lv' := [_, _, _]) F dX8_road_239 (by decide) rfl rfl ?_
        refine lp3 n m th rp hv hn (fun M3 f3 g3 z3 => ?_) n 0 _ _ (by omega) ?_
        · refine z_iconst (v := 0) F dX8_road_296 (by decide) ?_
          refine z_istore_n (lv' := [_, _, _]) F dX8_road_297 (by decide) rfl rfl ?_
          refine lp4 n m th rp hv hm (fun M4 f4 lv hlv => ?_) m 0 _ _ (by omega) f3
          refine z_aload_n F dX8_road_344 hlv ?_
          refine zg_X8_now F (by with_reducible assumption) fl_X8_16 dX8_road_345 (fun hk_345 => ?_)
          refine z_iconst (v := 0) F dX8_road_348 (by decide) ?_
          refine z_aload_n F dX8_road_349 hlv ?_
          refine zg_X8_his F (by with_reducible assumption) fl_X8_154 dX8_road_350 ?_
          rw [f4.2.2.2.1.2.2.2.2.2.1]
          refine z_iast10n (q := 0) F (by with_reducible assumption) rfl (by rw [hz3]; omega) dX8_road_353 ?_
          refine z_aload_n F dX8_road_354 hlv ?_
          refine zg_X8_things F (by with_reducible assumption) fl_X8_69 dX8_road_355 ?_
          rw [zs_off _ (show (138 : Nat) ≠ 138 + 3 by decide), f4.2.2.2.1.1]
          refine z_iret F X dX8_road_358 ?_
          rw [a4]
          exact Or.inr ⟨by show ¬ (1 : Int32) = 0; decide, rfl, f4.end⟩
        · obtain ⟨⟨b1, b2, b3⟩, c2, c3, c4, c5, c6, c7⟩ := r2
          have g15 : (zs M_190 138 12 0).1 138 15 = hv := by rw [b3 15 (by decide), zs_at, va_up_self]
          simp +decide only [zs_g, if_false] at g15 c4 c5
          rw [zs_off _ (by decide)] at c6 c7
          refine ⟨b1, fun b d1 d2 d3 d4 d5 d6 => ?_, ⟨?_, ?_⟩, ⟨?_, ?_, ?_, ?_, ?_, ?_, ?_⟩, fun j hj => ?_, fun q => ?_, fun q hq2 => absurd hq2 (by omega), ?_, fun q d1 d2 => ?_, fun j hj => absurd hj (by omega), fun j d1 d2 => ?_⟩
          · rw [zs_off _ d1, za_off _ d4, zs_off _ d1, zs_off _ d1, zs_off _ d1, zs_off _ d1]
            have := b2 b d1 d5 d6
            rw [zs_off _ d1, zs_off _ d1] at this
            exact this
          · rw [zs_off _ (by decide), za_off _ (by decide), zs_off _ (by decide), zs_off _ (by decide), zs_off _ (by decide), zs_off _ (by decide)]; exact c6
          · rw [zs_off _ (by decide), za_off _ (by decide), zs_off _ (by decide), zs_off _ (by decide), zs_off _ (by decide), zs_off _ (by decide)]; exact c7
          · rw [zs_g, if_neg (by decide), za_off _ (by decide)]; simp +decide only [zs_g, if_false, if_true]
          · rw [zs_g, if_neg (by decide), za_off _ (by decide)]; simp +decide only [zs_g, if_true]
          · rw [zs_g, if_neg (by decide), za_off _ (by decide)]; simp +decide only [zs_g, if_false, if_true]
          · rw [zs_g, if_neg (by decide), za_off _ (by decide)]; simp +decide only [zs_g, if_false]; exact c4
          · rw [zs_g, if_neg (by decide), za_off _ (by decide)]; simp +decide only [zs_g, if_false]; exact c5
          · rw [zs_g, if_neg (by decide), za_off _ (by decide)]; simp +decide only [zs_g, if_false]; exact g15
          · simp +decide only [zs_g, if_true]
          · have := b3 j (by omega)
            rw [zs_g, if_neg (by omega), zs_g, if_neg (by omega)] at this
            rw [zs_g, if_neg (by omega), za_off _ (by decide), zs_g, if_neg (by omega), zs_g, if_neg (by omega), zs_g, if_neg (by omega), zs_g, if_neg (by omega)]
            exact this
          · rw [if_neg (by omega), zs_off _ (by decide), za_off _ (by decide), zs_off _ (by decide), zs_off _ (by decide), zs_off _ (by decide), zs_off _ (by decide)]
            have := b2 139 (by decide) (by decide) (by decide)
            rw [zs_off _ (by decide), zs_off _ (by decide)] at this
            rw [this]
          · rw [zs_off _ (by decide), show (141 : Nat) = 138 + 3 from rfl, za_at]; rfl
          · rw [zs_off _ (by decide), show (141 : Nat) = 138 + 3 from rfl, za_at, startT, if_neg (by omega), if_pos (by omega)]
          · rw [zs_off _ (by decide), show (141 : Nat) = 138 + 3 from rfl, za_at, startT, if_neg (by omega), if_neg (by omega), if_pos (by omega)]
      · try simp only [r.2.2.1] at h_193
        refine z_iconst (v := 1) F dX8_road_196 (by decide) ?_
        refine z_goto (tgt := 201) F dX8_road_197 (by decide) ?_
        refine zp_X8_wrong F (by with_reducible assumption) fl_X8_127 (by decide) (by decide) dX8_road_201 ?_
        refine fail _ _ (R_190.wr 1) ?_ ?_
        · rw [a1, endF]; exact (bI_f h_193).symm
        · rw [a1, endF]
  have P124 : ∀ (g1 wr : Int32) (p n m : Nat) (th rp : zF1) (M' : zM), RS (zs M 138 15 (-4)) M' p wr n m th rp → p ≤ len → n ≤ 10 → m ≤ 8 → (wr = 1 ∧ R.1 = 0 ∧ R.2.1 = p ∨ wr = 0 ∧ R = roadH L len (p, m, peR rp, TR rp) n th) → ZW w g 3 124 [some (.ref (w.2.2 138)), some (.int g1), some (.int 0)] [] M' := by
    intro g1 wr p n m th rp M' r hp hn hm hq
    have w1 : wr = 0 ∨ wr = 1 := hq.elim (fun z => Or.inr z.1) (fun z => Or.inl z.1)
    have l3 : hsP L len wr p 59 ≤ len := hsP_le hp (by decide)
    have l4 : hsP L len wr (hsP L len wr p 59) 61 ≤ len := hsP_le l3 (by decide)
    refine z_iload_n F dX8_road_124 rfl ?_
    refine z_if_ne (tgt := 164) F dX8_road_125 (by decide) (fun h_125 => absurd h_125 (by decide)) (fun h_125 => ?_)
    refine z_aload_n F dX8_road_128 rfl ?_
    refine z_bipush (v := 59) F dX8_road_129 (by decide) ?_
    refine z_callVi F (p_has J r (hl2 _) h120 hp w1) zm_X8_has zv_X8_has ml_X8_145 (by with_reducible assumption) (by decide) rfl rfl rfl (Nat.le_of_ble_eq_true rfl) dX8_road_131 (by omega) (fun r_131 M_131 h_131 => ?_)
    obtain ⟨R_131, e_131⟩ := h_131
    rw [hL2] at R_131 e_131
    subst e_131
    refine z_if_eq (tgt := 164) F dX8_road_134 (by decide) (fun h_134 => ?_) (fun h_134 => ?_)
    · replace h_134 := bI_0.mp h_134
      refine z_aload_n F dX8_road_164 rfl ?_
      refine z_iload_n F dX8_road_165 rfl ?_
      refine z_if_eq (tgt := 176) F dX8_road_166 (by decide) (fun h_166 => ?_) (fun h_166 => absurd h_166 (by decide))
      refine z_bipush (v := (-4)) F dX8_road_176 (by decide) ?_
      refine zp_X8_his F (by with_reducible assumption) fl_X8_154 dX8_road_178 ?_
      refine E (-4) _ wr _ _ n m th rp _ (R_131.hs (-4)) l3 hn hm ?_
      rcases hq with ⟨rfl, q1, q2⟩ | ⟨rfl, q1⟩
      · rw [hsP_1]; exact Or.inl ⟨rfl, q1, q2⟩
      · rw [hsP_0]
        refine Or.inr ⟨rfl, ?_⟩
        rw [TR_id, q1, roadH, if_neg (fun y => h_134 ⟨rfl, y⟩)]
    · replace h_134 := bI_1.mp h_134
      obtain ⟨z1, z2⟩ := h_134
      rcases hq with ⟨q0, _⟩ | ⟨_, q1⟩
      · exact absurd (z1.symm.trans q0) (by decide)
      subst z1
      rw [roadH, if_pos z2] at q1
      rw [hsP_0] at R_131 l3 l4
      rw [hsP_0] at l4
      refine z_aload_n F dX8_road_137 rfl ?_
      refine z_bipush (v := 61) F dX8_road_138 (by decide) ?_
      refine z_callVi F (p_has J R_131 (hl2 _) h120 l3 w1) zm_X8_has zv_X8_has ml_X8_145 (by with_reducible assumption) (by decide) rfl rfl rfl (Nat.le_of_ble_eq_true rfl) dX8_road_140 (by omega) (fun r_140 M_140 h_140 => ?_)
      obtain ⟨R_140, e_140⟩ := h_140
      rw [hL2] at R_140 e_140
      subst e_140
      refine z_istore_n (lv' := [_, _, _]) F dX8_road_143 (by decide) rfl rfl ?_
      refine z_aload_n F dX8_road_144 rfl ?_
      refine z_aload_n F dX8_road_145 rfl ?_
      refine zg_X8_wrong F (by with_reducible assumption) fl_X8_127 dX8_road_146 ?_
      rw [R_140.2.2.1]
      refine z_if_ne (tgt := 156) F dX8_road_149 (by decide) (fun h_149 => absurd h_149 (by decide)) (fun h_149 => ?_)
      refine z_iload_n F dX8_road_152 rfl ?_
      refine z_if_ne (tgt := 160) F dX8_road_153 (by decide) (fun h_153 => ?_) (fun h_153 => ?_)
      · replace h_153 := bI_1.mp h_153
        rw [← bI_t h_153]
        rw [hsP_0] at R_140
        have z3 := h_153.2
        have R3 := R_140.wr 0
        refine z_iconst (v := 0) F dX8_road_160 (by decide) ?_
        refine zp_X8_wrong F (by with_reducible assumption) fl_X8_127 (by decide) (by decide) dX8_road_161 ?_
        refine z_aload_n F dX8_road_164 rfl ?_
        refine z_iload_n F dX8_road_165 rfl ?_
        refine z_if_eq (tgt := 176) F dX8_road_166 (by decide) (fun h_166 => absurd h_166 (by decide)) (fun h_166 => ?_)
        refine z_aload_n F dX8_road_169 rfl ?_
        refine z_callVi F (p_readHad J R3 (hl2 _) h120 l4 hn hm) zm_X8_readHad zv_X8_readHad ml_X8_151 (by with_reducible assumption) (by decide) rfl rfl rfl (Nat.le_of_ble_eq_true rfl) dX8_road_170 (by omega) (fun r_170 M_170 h_170 => ?_)
        rw [hL2] at h_170
        have lf := freeF_le (L := L) (len := len) (nt := nI n) (T := TR rp) (np := m) l4
        refine z_goto (tgt := 178) F dX8_road_173 (by decide) ?_
        refine zp_X8_his F (by with_reducible assumption) fl_X8_154 dX8_road_178 ?_
        rcases h_170 with ⟨f1, R4⟩ | ⟨f1, R4, f2⟩
        · exact E _ _ 1 _ _ n m th rp _ (R4.hs _) lf hn hm (his_n q1 z3 f1)
        · exact E _ _ 0 _ _ n m th rp _ (R4.hs _) lf hn hm (his_y q1 z3 f1 f2)
      · replace h_153 := bI_0.mp h_153
        refine z_iconst (v := 1) F dX8_road_156 (by decide) ?_
        refine z_goto (tgt := 161) F dX8_road_157 (by decide) ?_
        refine zp_X8_wrong F (by with_reducible assumption) fl_X8_127 (by decide) (by decide) dX8_road_161 ?_
        rw [← bI_f h_153]
        refine z_aload_n F dX8_road_164 rfl ?_
        refine z_iload_n F dX8_road_165 rfl ?_
        refine z_if_eq (tgt := 176) F dX8_road_166 (by decide) (fun _ => ?_) (fun z => absurd rfl z)
        refine z_bipush (v := (-4)) F dX8_road_176 (by decide) ?_
        refine zp_X8_his F (by with_reducible assumption) fl_X8_154 dX8_road_178 ?_
        rw [hsP_0] at R_140
        exact E (-4) _ 1 _ _ n m th rp _ ((R_140.wr 1).hs (-4)) l4 hn hm (his_f q1 (fun y => h_153 ⟨rfl, y⟩))
  have lp2 : ∀ (n : Nat) (th : zF1) (RY : Int32 × zY), n ≤ 10 → (∀ (g1 : Int32) (M' : zM), (RY.1 = 0 ∧ (∃ m rp, m ≤ 8 ∧ RS (zs M 138 15 (-4)) M' RY.2.1 1 n m th rp) ∨ ¬ RY.1 = 0 ∧ ∃ rp, RS (zs M 138 15 (-4)) M' RY.2.1 0 n RY.2.2.1 th rp ∧ peR rp = RY.2.2.2.1 ∧ TR rp = RY.2.2.2.2) → ZW w g 3 124 [some (.ref (w.2.2 138)), some (.int g1), some (.int 0)] [] M') → ∀ (j m p : Nat) (rp : zF1) (M' : zM), m + (j + 1) = 8 → p ≤ len → RS (zs M 138 15 (-4)) M' p 0 n m th rp → peoL L len (nI n) (j + 1) (p, m, peR rp, TR rp) = RY → ZW w g 3 89 [some (.ref (w.2.2 138)), some (.int 1), some (.int 0)] [] M' := by
    intro n th RY hn K j
    have ex : ∀ (M' : zM), (RY.1 = 0 ∧ (∃ m rp, m ≤ 8 ∧ RS (zs M 138 15 (-4)) M' RY.2.1 1 n m th rp) ∨ ¬ RY.1 = 0 ∧ ∃ rp, RS (zs M 138 15 (-4)) M' RY.2.1 0 n RY.2.2.1 th rp ∧ peR rp = RY.2.2.2.1 ∧ TR rp = RY.2.2.2.2) → ZW w g 3 89 [some (.ref (w.2.2 138)), some (.int 0), some (.int 0)] [] M' := by
      intro M' q
      refine z_iload_n F dX8_road_89 rfl ?_
      refine z_if_eq (tgt := 124) F dX8_road_90 (by decide) (fun h_90 => ?_) (fun h_90 => absurd h_90 (by decide))
      exact K _ M' q
    have fp : ∀ (p m : Nat) (rp : zF1) (M2 : zM), ((perF L len p (nI n) (TR rp) m).1 = 0 ∧ ∃ rp', RS (zs M 138 15 (-4)) M2 (perF L len p (nI n) (TR rp) m).2.1 1 n (m + 1) th rp') ∨ (¬ (perF L len p (nI n) (TR rp) m).1 = 0 ∧ ∃ rp', RS (zs M 138 15 (-4)) M2 (perF L len p (nI n) (TR rp) m).2.1 0 n (m + 1) th rp' ∧ peR rp' = va_up (va_up (peR rp) (2 * m) (perF L len p (nI n) (TR rp) m).2.2.1) (2 * m + 1) (perF L len p (nI n) (TR rp) m).2.2.2.1 ∧ TR rp' = va_up (TR rp) (5 + m) (perF L len p (nI n) (TR rp) m).2.2.2.2) → ∃ wr rp', (wr = 0 ∨ wr = 1) ∧ RS (zs M 138 15 (-4)) M2 (perF L len p (nI n) (TR rp) m).2.1 wr n (m + 1) th rp' ∧ (wr = 1 ∧ (perF L len p (nI n) (TR rp) m).1 = 0 ∨ wr = 0 ∧ ¬ (perF L len p (nI n) (TR rp) m).1 = 0 ∧ peR rp' = va_up (va_up (peR rp) (2 * m) (perF L len p (nI n) (TR rp) m).2.2.1) (2 * m + 1) (perF L len p (nI n) (TR rp) m).2.2.2.1 ∧ TR rp' = va_up (TR rp) (5 + m) (perF L len p (nI n) (TR rp) m).2.2.2.2) := by
      intro p m rp M2 q
      rcases q with ⟨a, rp', b⟩ | ⟨a, rp', b, c, d⟩
      · exact ⟨1, rp', Or.inr rfl, b, Or.inl ⟨rfl, a⟩⟩
      · exact ⟨0, rp', Or.inl rfl, b, Or.inr ⟨rfl, a, c, d⟩⟩
    induction j with
    | zero =>
      intro m p rp M' hm hp r hY
      obtain rfl : m = 7 := by omega
      rw [peoL] at hY
      dsimp only at hY
      refine z_iload_n F dX8_road_89 rfl ?_
      refine z_if_eq (tgt := 124) F dX8_road_90 (by decide) (fun h_90 => absurd h_90 (by decide)) (fun h_90 => ?_)
      refine z_aload_n F dX8_road_93 rfl ?_
      refine z_callVv F (p_readPerson J r (hl2 _) h120 hp hn (by omega)) zm_X8_readPerson zv_X8_readPerson ml_X8_160 (by with_reducible assumption) (by decide) rfl rfl rfl (Nat.le_of_ble_eq_true rfl) dX8_road_94 (by omega) (fun M_94 h_94 => ?_)
      rw [hL2] at h_94
      obtain ⟨wr, rp', w1, R', hc⟩ := fp p 7 rp _ h_94
      refine z_aload_n F dX8_road_97 rfl ?_
      refine zg_X8_manyPeople F (by with_reducible assumption) fl_X8_148 dX8_road_98 ?_
      rw [R'.2.2.2.2.1]
      refine z_bipush (v := 8) F dX8_road_101 (by decide) ?_
      refine z_ic_ge (tgt := 119) F dX8_road_103 (by decide) (fun h_103 => ?_) (fun h_103 => absurd h_103 (by decide))
      refine z_iconst (v := 0) F dX8_road_119 (by decide) ?_
      refine z_istore_n (lv' := [_, _, _]) F dX8_road_120 (by decide) rfl rfl ?_
      refine z_goto (tgt := 89) F dX8_road_121 (by decide) ?_
      refine ex _ ?_
      rcases hc with ⟨rfl, a⟩ | ⟨rfl, a, b, c⟩
      · rw [if_pos a] at hY
        subst hY
        exact Or.inl ⟨rfl, 8, rp', by omega, R'⟩
      · rw [if_neg a, if_pos rfl] at hY
        subst hY
        exact Or.inr ⟨by show ¬ (1 : Int32) = 0; decide, rp', R', b, c⟩
    | succ j ih =>
      intro m p rp M' hm hp r hY
      rw [peoL] at hY
      dsimp only at hY
      have l5 : (perF L len p (nI n) (TR rp) m).2.1 ≤ len := perF_le hp
      refine z_iload_n F dX8_road_89 rfl ?_
      refine z_if_eq (tgt := 124) F dX8_road_90 (by decide) (fun h_90 => absurd h_90 (by decide)) (fun h_90 => ?_)
      refine z_aload_n F dX8_road_93 rfl ?_
      refine z_callVv F (p_readPerson J r (hl2 _) h120 hp hn (by omega)) zm_X8_readPerson zv_X8_readPerson ml_X8_160 (by with_reducible assumption) (by decide) rfl rfl rfl (Nat.le_of_ble_eq_true rfl) dX8_road_94 (by omega) (fun M_94 h_94 => ?_)
      rw [hL2] at h_94
      obtain ⟨wr, rp', w1, R', hc⟩ := fp p m rp _ h_94
      refine z_aload_n F dX8_road_97 rfl ?_
      refine zg_X8_manyPeople F (by with_reducible assumption) fl_X8_148 dX8_road_98 ?_
      rw [R'.2.2.2.2.1]
      refine z_bipush (v := 8) F dX8_road_101 (by decide) ?_
      refine z_ic_ge (tgt := 119) F dX8_road_103 (by decide) (fun h_103 => absurd h_103 (nI_ge (b := 8) (by omega) (by decide))) (fun h_103 => ?_)
      refine z_aload_n F dX8_road_106 rfl ?_
      refine z_bipush (v := 44) F dX8_road_107 (by decide) ?_
      refine z_callVi F (p_has J R' (hl2 _) h120 l5 w1) zm_X8_has zv_X8_has ml_X8_145 (by with_reducible assumption) (by decide) rfl rfl rfl (Nat.le_of_ble_eq_true rfl) dX8_road_109 (by omega) (fun r_109 M_109 h_109 => ?_)
      obtain ⟨R_109, e_109⟩ := h_109
      rw [hL2] at R_109 e_109
      subst e_109
      refine z_if_eq (tgt := 119) F dX8_road_112 (by decide) (fun h_112 => ?_) (fun h_112 => ?_)
      · replace h_112 := bI_0.mp h_112
        refine z_iconst (v := 0) F dX8_road_119 (by decide) ?_
        refine z_istore_n (lv' := [_, _, _]) F dX8_road_120 (by decide) rfl rfl ?_
        refine z_goto (tgt := 89) F dX8_road_121 (by decide) ?_
        refine ex _ ?_
        rcases hc with ⟨rfl, a⟩ | ⟨rfl, a, b, c⟩
        · rw [if_pos a] at hY
          subst hY
          rw [hsP_1] at R_109
          exact Or.inl ⟨rfl, m + 1, rp', by omega, R_109⟩
        · rw [if_neg a, if_neg (by omega), if_neg (fun y => h_112 ⟨rfl, y⟩)] at hY
          subst hY
          rw [hsP_0] at R_109
          exact Or.inr ⟨by show ¬ (1 : Int32) = 0; decide, rp', R_109, b, c⟩
      · replace h_112 := bI_1.mp h_112
        refine z_iconst (v := 1) F dX8_road_115 (by decide) ?_
        refine z_goto (tgt := 120) F dX8_road_116 (by decide) ?_
        refine z_istore_n (lv' := [_, _, _]) F dX8_road_120 (by decide) rfl rfl ?_
        refine z_goto (tgt := 89) F dX8_road_121 (by decide) ?_
        obtain ⟨z1, z2⟩ := h_112
        rcases hc with ⟨z3, a⟩ | ⟨_, a, b, c⟩
        · exact absurd (z1.symm.trans z3) (by decide)
        subst z1
        rw [if_neg a, if_neg (by omega), if_pos z2, ← b, ← c] at hY
        rw [hsP_0] at R_109
        exact ih (m + 1) _ rp' _ (by omega) (rdP_le l5 (by decide)) R_109 hY
  have S63 : ∀ (g1 : Int32) (M' : zM), ((thiL L len 10 (0, 0, th0)).1 = 0 ∧ (∃ n th, n ≤ 10 ∧ RS (zs M 138 15 (-4)) M' (thiL L len 10 (0, 0, th0)).2.1 1 n 0 th rp0) ∨ ¬ (thiL L len 10 (0, 0, th0)).1 = 0 ∧ RS (zs M 138 15 (-4)) M' (thiL L len 10 (0, 0, th0)).2.1 0 (thiL L len 10 (0, 0, th0)).2.2.1 0 (thiL L len 10 (0, 0, th0)).2.2.2 rp0) → ZW w g 3 63 [some (.ref (w.2.2 138)), some (.int g1), none] [] M' := by
    intro g1 M' hq
    obtain ⟨lz1, lz2⟩ := thiL_le (L := L) (len := len) 10 (0, 0, th0) (Nat.zero_le _)
    rw [roadF] at hR
    generalize hRZ : thiL L len 10 (0, 0, th0) = RZ at hq hR lz1 lz2
    rcases hq with ⟨a1, n, th, hn, r⟩ | ⟨a1, r⟩
    · rw [if_pos a1] at hR
      refine z_aload_n F dX8_road_63 rfl ?_
      refine z_bipush (v := 59) F dX8_road_64 (by decide) ?_
      refine z_callVi F (p_has J r (hl2 _) h120 lz1 (Or.inr rfl)) zm_X8_has zv_X8_has ml_X8_145 (by with_reducible assumption) (by decide) rfl rfl rfl (Nat.le_of_ble_eq_true rfl) dX8_road_66 (by omega) (fun r_66 M_66 h_66 => ?_)
      obtain ⟨R_66, e_66⟩ := h_66
      rw [hL2] at R_66 e_66
      subst e_66
      refine z_if_eq (tgt := 181) F dX8_road_69 (by decide) (fun h_69 => ?_) (fun h_69 => ?_)
      · replace h_69 := bI_0.mp h_69
        rw [hsP_1] at R_66
        exact E (-4) _ 1 _ _ n 0 th rp0 _ R_66 lz1 hn (by omega) (Or.inl ⟨rfl, by rw [← hR], by rw [← hR]⟩)
      · replace h_69 := bI_1.mp h_69
        exact absurd h_69.1 (by decide)
    · rw [if_neg a1] at hR
      generalize hp0 : RZ.2.1 = p at r hR lz1
      generalize hn0 : RZ.2.2.1 = n at r hR lz2
      generalize ht0 : RZ.2.2.2 = th at r hR
      have hn : n ≤ 10 := by omega
      have lP : rdP L len p 59 ≤ len := rdP_le lz1 (by decide)
      have lQ : rdP L len (rdP L len p 59) 61 ≤ len := rdP_le lP (by decide)
      have id2 := nxP_i2 L lP
      refine z_aload_n F dX8_road_63 rfl ?_
      refine z_bipush (v := 59) F dX8_road_64 (by decide) ?_
      refine z_callVi F (p_has J r (hl2 _) h120 lz1 (Or.inl rfl)) zm_X8_has zv_X8_has ml_X8_145 (by with_reducible assumption) (by decide) rfl rfl rfl (Nat.le_of_ble_eq_true rfl) dX8_road_66 (by omega) (fun r_66 M_66 h_66 => ?_)
      obtain ⟨R_66, e_66⟩ := h_66
      rw [hL2] at R_66 e_66
      rw [hsP_0] at R_66
      subst e_66
      refine z_if_eq (tgt := 181) F dX8_road_69 (by decide) (fun h_69 => ?_) (fun h_69 => ?_)
      · replace h_69 := bI_0.mp h_69
        refine E (-4) _ 0 _ _ n 0 th rp0 _ R_66 lP hn (by omega) (Or.inr ⟨rfl, ?_⟩)
        rw [← hR, roadG, if_neg (fun y => h_69 ⟨rfl, y⟩), TR_id]
      · replace h_69 := bI_1.mp h_69
        have z1 := h_69.2
        rw [roadG, if_pos z1] at hR
        refine z_aload_n F dX8_road_72 rfl ?_
        refine z_bipush (v := 61) F dX8_road_73 (by decide) ?_
        refine z_callVi F (p_has J R_66 (hl2 _) h120 lP (Or.inl rfl)) zm_X8_has zv_X8_has ml_X8_145 (by with_reducible assumption) (by decide) rfl rfl rfl (Nat.le_of_ble_eq_true rfl) dX8_road_75 (by omega) (fun r_75 M_75 h_75 => ?_)
        obtain ⟨R_75, e_75⟩ := h_75
        rw [hL2] at R_75 e_75
        rw [hsP_0] at R_75
        subst e_75
        refine z_istore_n (lv' := [_, _, _]) F dX8_road_78 (by decide) rfl rfl ?_
        refine z_iload_n F dX8_road_79 rfl ?_
        refine z_if_ne (tgt := 87) F dX8_road_80 (by decide) (fun h_80 => ?_) (fun h_80 => ?_)
        · replace h_80 := bI_1.mp h_80
          rw [← bI_t h_80]
          have z2 : rdB L len (rdP L len p 59) 61 := h_80.2
          have z4 : chF L len (nxP L (len - rdP L len p 59) (rdP L len p 59)) = 61 := z2
          have z3 : rdB L len (nxP L (len - rdP L len p 59) (rdP L len p 59)) 61 := by
            show chF L len (nxP L (len - nxP L (len - rdP L len p 59) (rdP L len p 59)) (nxP L (len - rdP L len p 59) (rdP L len p 59))) = 61
            rw [id2]
            exact z4
          have z5 : rdP L len (nxP L (len - rdP L len p 59) (rdP L len p 59)) 61 = rdP L len (rdP L len p 59) 61 := by
            rw [show rdP L len (rdP L len p 59) 61 = nxP L (len - rdP L len p 59) (rdP L len p 59) + 1 from if_pos z2, show rdP L len (nxP L (len - rdP L len p 59) (rdP L len p 59)) 61 = nxP L (len - nxP L (len - rdP L len p 59) (rdP L len p 59)) (nxP L (len - rdP L len p 59) (rdP L len p 59)) + 1 from if_pos z3, id2]
          rw [z4, if_neg (by decide)] at hR
          have lf := freeF_le (L := L) (len := len) (nt := nI n) (T := TR rp0) (np := 0) lQ
          refine z_iconst (v := 0) F dX8_road_87 (by decide) ?_
          refine z_istore_n (lv' := [_, _, _]) F dX8_road_88 (by decide) rfl rfl ?_
          refine z_iload_n F dX8_road_89 rfl ?_
          refine z_if_eq (tgt := 124) F dX8_road_90 (by decide) (fun h_90 => ?_) (fun h_90 => absurd h_90 (by decide))
          refine z_iload_n F dX8_road_124 rfl ?_
          refine z_if_ne (tgt := 164) F dX8_road_125 (by decide) (fun h_125 => ?_) (fun h_125 => absurd h_125 (by decide))
          refine z_aload_n F dX8_road_164 rfl ?_
          refine z_iload_n F dX8_road_165 rfl ?_
          refine z_if_eq (tgt := 176) F dX8_road_166 (by decide) (fun h_166 => absurd h_166 (by decide)) (fun h_166 => ?_)
          refine z_aload_n F dX8_road_169 rfl ?_
          refine z_callVi F (p_readHad J R_75 (hl2 _) h120 lQ hn (by omega)) zm_X8_readHad zv_X8_readHad ml_X8_151 (by with_reducible assumption) (by decide) rfl rfl rfl (Nat.le_of_ble_eq_true rfl) dX8_road_170 (by omega) (fun r_170 M_170 h_170 => ?_)
          rw [hL2] at h_170
          refine z_goto (tgt := 178) F dX8_road_173 (by decide) ?_
          refine zp_X8_his F (by with_reducible assumption) fl_X8_154 dX8_road_178 ?_
          rcases h_170 with ⟨f1, R4⟩ | ⟨f1, R4, f2⟩
          · rw [← z5] at f1 R4 lf
            exact E _ _ 1 _ _ n 0 th rp0 _ (R4.hs _) lf hn (by omega) (his_n hR.symm z3 f1)
          · rw [← z5] at f1 R4 f2 lf
            exact E _ _ 0 _ _ n 0 th rp0 _ (R4.hs _) lf hn (by omega) (his_y hR.symm z3 f1 f2)
        · replace h_80 := bI_0.mp h_80
          rw [← bI_f h_80]
          have z2 : ¬ rdB L len (rdP L len p 59) 61 := fun y => h_80 ⟨rfl, y⟩
          have z3 : rdP L len (rdP L len p 59) 61 = nxP L (len - rdP L len p 59) (rdP L len p 59) := if_neg z2
          refine z_iconst (v := 1) F dX8_road_83 (by decide) ?_
          refine z_goto (tgt := 88) F dX8_road_84 (by decide) ?_
          refine z_istore_n (lv' := [_, _, _]) F dX8_road_88 (by decide) rfl rfl ?_
          rw [z3] at R_75 lQ
          obtain ⟨ly1, ly2⟩ := peoL_le (L := L) (len := len) (nt := nI n) 8 (nxP L (len - rdP L len p 59) (rdP L len p 59), 0, peR rp0, TR rp0) lQ
          refine lp2 n th _ hn (fun g2 M2 hc => ?_) 7 0 _ rp0 _ rfl lQ R_75 rfl
          by_cases hd : dgF (chF L len (nxP L (len - rdP L len p 59) (rdP L len p 59)))
          · rw [if_pos hd] at hR
            rcases hc with ⟨c1, m, rp, c2, c3⟩ | ⟨c1, rp, c3, c4, c5⟩
            · rw [if_pos c1] at hR
              exact P124 g2 1 _ n m th rp M2 c3 ly1 hn c2 (Or.inl ⟨rfl, by rw [← hR], by rw [← hR]⟩)
            · rw [if_neg c1] at hR
              refine P124 g2 0 _ n _ th rp M2 c3 ly1 hn (by omega) (Or.inr ⟨rfl, ?_⟩)
              rw [← hR, c4, c5]
          · rw [if_neg hd] at hR
            have nf : (numF L len (nxP L (len - rdP L len p 59) (rdP L len p 59)) 11) = (-1, nxP L (len - rdP L len p 59) (rdP L len p 59)) := by
              unfold numF
              rw [id2, if_neg hd]
            have pf : peoL L len (nI n) 8 (nxP L (len - rdP L len p 59) (rdP L len p 59), 0, peR rp0, TR rp0) = (0, (nxP L (len - rdP L len p 59) (rdP L len p 59), 0, peR rp0, TR rp0)) := by
              rw [peoL]
              dsimp only
              unfold perF
              rw [nf, if_pos (show (-1, nxP L (len - rdP L len p 59) (rdP L len p 59)).1 < (0 : Int32) from by show (-1 : Int32) < 0; decide), if_pos rfl]
            rw [pf] at hc
            have hf : ¬ rdB L len (nxP L (len - rdP L len p 59) (rdP L len p 59)) 61 := by
              show ¬ chF L len (nxP L (len - nxP L (len - rdP L len p 59) (rdP L len p 59)) (nxP L (len - rdP L len p 59) (rdP L len p 59))) = 61
              rw [id2]
              exact z2
            have hf2 : rdP L len (nxP L (len - rdP L len p 59) (rdP L len p 59)) 61 = nxP L (len - rdP L len p 59) (rdP L len p 59) := by
              rw [rdP, if_neg hf, id2]
            rcases hc with ⟨c1, m, rp, c2, c3⟩ | ⟨c1, _⟩
            · have hh := his_f (hv := -4) hR.symm hf
              rcases hh with ⟨_, h1, h2⟩ | ⟨h1, _⟩
              · exact P124 g2 1 _ n m th rp M2 c3 lQ hn c2 (Or.inl ⟨rfl, h1, by rw [h2, hf2]⟩)
              · exact absurd h1 (by decide)
            · exact absurd rfl c1
  have lp1 : ∀ (j n p : Nat) (th : zF1) (M' : zM), n + (j + 1) = 10 → p ≤ len → RS (zs M 138 15 (-4)) M' p 0 n 0 th rp0 → thiL L len (j + 1) (p, n, th) = thiL L len 10 (0, 0, th0) → ZW w g 3 28 [some (.ref (w.2.2 138)), some (.int 1), none] [] M' := by
    have ex : ∀ (M' : zM), ((thiL L len 10 (0, 0, th0)).1 = 0 ∧ (∃ n th, n ≤ 10 ∧ RS (zs M 138 15 (-4)) M' (thiL L len 10 (0, 0, th0)).2.1 1 n 0 th rp0) ∨ ¬ (thiL L len 10 (0, 0, th0)).1 = 0 ∧ RS (zs M 138 15 (-4)) M' (thiL L len 10 (0, 0, th0)).2.1 0 (thiL L len 10 (0, 0, th0)).2.2.1 0 (thiL L len 10 (0, 0, th0)).2.2.2 rp0) → ZW w g 3 28 [some (.ref (w.2.2 138)), some (.int 0), none] [] M' := by
      intro M' q
      refine z_iload_n F dX8_road_28 rfl ?_
      refine z_if_eq (tgt := 63) F dX8_road_29 (by decide) (fun h_29 => ?_) (fun h_29 => absurd h_29 (by decide))
      exact S63 _ M' q
    have fp : ∀ (p n : Nat) (th : zF1) (M2 : zM), (((thiF L len p).1 = 0 ∧ ∃ th', RS (zs M 138 15 (-4)) M2 (thiF L len p).2.1 1 (n + 1) 0 th' rp0) ∨ (¬ (thiF L len p).1 = 0 ∧ RS (zs M 138 15 (-4)) M2 (thiF L len p).2.1 0 (n + 1) 0 (setF th n (thiF L len p).2.2.1 (thiF L len p).2.2.2.1 (thiF L len p).2.2.2.2.1 (thiF L len p).2.2.2.2.2) rp0)) → ∃ wr th', (wr = 0 ∨ wr = 1) ∧ RS (zs M 138 15 (-4)) M2 (thiF L len p).2.1 wr (n + 1) 0 th' rp0 ∧ (wr = 1 ∧ (thiF L len p).1 = 0 ∨ wr = 0 ∧ ¬ (thiF L len p).1 = 0 ∧ th' = setF th n (thiF L len p).2.2.1 (thiF L len p).2.2.2.1 (thiF L len p).2.2.2.2.1 (thiF L len p).2.2.2.2.2) := by
      intro p n th M2 q
      rcases q with ⟨a, th', b⟩ | ⟨a, b⟩
      · exact ⟨1, th', Or.inr rfl, b, Or.inl ⟨rfl, a⟩⟩
      · exact ⟨0, _, Or.inl rfl, b, Or.inr ⟨rfl, a, rfl⟩⟩
    generalize hRZ : thiL L len 10 (0, 0, th0) = RZ at ex
    intro j
    induction j with
    | zero =>
      intro n p th M' hn hp r hZ
      obtain rfl : n = 9 := by omega
      rw [thiL] at hZ
      dsimp only at hZ
      refine z_iload_n F dX8_road_28 rfl ?_
      refine z_if_eq (tgt := 63) F dX8_road_29 (by decide) (fun h_29 => absurd h_29 (by decide)) (fun h_29 => ?_)
      refine z_aload_n F dX8_road_32 rfl ?_
      refine z_callVv F (p_readThing J r (hl2 _) h120 hp (by omega)) zm_X8_readThing zv_X8_readThing ml_X8_157 (by with_reducible assumption) (by decide) rfl rfl rfl (Nat.le_of_ble_eq_true rfl) dX8_road_33 (by omega) (fun M_33 h_33 => ?_)
      rw [hL2] at h_33
      obtain ⟨wr, th', w1, R', hc⟩ := fp p 9 th _ h_33
      refine z_aload_n F dX8_road_36 rfl ?_
      refine zg_X8_manyThings F (by with_reducible assumption) fl_X8_139 dX8_road_37 ?_
      rw [R'.2.2.2.1]
      refine z_bipush (v := 10) F dX8_road_40 (by decide) ?_
      refine z_ic_ge (tgt := 58) F dX8_road_42 (by decide) (fun h_42 => ?_) (fun h_42 => absurd h_42 (by decide))
      refine z_iconst (v := 0) F dX8_road_58 (by decide) ?_
      refine z_istore_n (lv' := [_, _, _]) F dX8_road_59 (by decide) rfl rfl ?_
      refine z_goto (tgt := 28) F dX8_road_60 (by decide) ?_
      refine ex _ ?_
      rcases hc with ⟨rfl, a⟩ | ⟨rfl, a, rfl⟩
      · rw [if_pos a] at hZ
        subst hZ
        exact Or.inl ⟨rfl, 10, th', by omega, R'⟩
      · rw [if_neg a, if_pos rfl] at hZ
        subst hZ
        exact Or.inr ⟨by show ¬ (1 : Int32) = 0; decide, R'⟩
    | succ j ih =>
      intro n p th M' hn hp r hZ
      rw [thiL] at hZ
      dsimp only at hZ
      have l5 : (thiF L len p).2.1 ≤ len := thiF_le hp
      refine z_iload_n F dX8_road_28 rfl ?_
      refine z_if_eq (tgt := 63) F dX8_road_29 (by decide) (fun h_29 => absurd h_29 (by decide)) (fun h_29 => ?_)
      refine z_aload_n F dX8_road_32 rfl ?_
      refine z_callVv F (p_readThing J r (hl2 _) h120 hp (by omega)) zm_X8_readThing zv_X8_readThing ml_X8_157 (by with_reducible assumption) (by decide) rfl rfl rfl (Nat.le_of_ble_eq_true rfl) dX8_road_33 (by omega) (fun M_33 h_33 => ?_)
      rw [hL2] at h_33
      obtain ⟨wr, th', w1, R', hc⟩ := fp p n th _ h_33
      refine z_aload_n F dX8_road_36 rfl ?_
      refine zg_X8_manyThings F (by with_reducible assumption) fl_X8_139 dX8_road_37 ?_
      rw [R'.2.2.2.1]
      refine z_bipush (v := 10) F dX8_road_40 (by decide) ?_
      refine z_ic_ge (tgt := 58) F dX8_road_42 (by decide) (fun h_42 => absurd h_42 (nI_ge (b := 10) (by omega) (by decide))) (fun h_42 => ?_)
      refine z_aload_n F dX8_road_45 rfl ?_
      refine z_bipush (v := 44) F dX8_road_46 (by decide) ?_
      refine z_callVi F (p_has J R' (hl2 _) h120 l5 w1) zm_X8_has zv_X8_has ml_X8_145 (by with_reducible assumption) (by decide) rfl rfl rfl (Nat.le_of_ble_eq_true rfl) dX8_road_48 (by omega) (fun r_48 M_48 h_48 => ?_)
      obtain ⟨R_48, e_48⟩ := h_48
      rw [hL2] at R_48 e_48
      subst e_48
      refine z_if_eq (tgt := 58) F dX8_road_51 (by decide) (fun h_51 => ?_) (fun h_51 => ?_)
      · replace h_51 := bI_0.mp h_51
        refine z_iconst (v := 0) F dX8_road_58 (by decide) ?_
        refine z_istore_n (lv' := [_, _, _]) F dX8_road_59 (by decide) rfl rfl ?_
        refine z_goto (tgt := 28) F dX8_road_60 (by decide) ?_
        refine ex _ ?_
        rcases hc with ⟨rfl, a⟩ | ⟨rfl, a, rfl⟩
        · rw [if_pos a] at hZ
          subst hZ
          rw [hsP_1] at R_48
          exact Or.inl ⟨rfl, n + 1, th', by omega, R_48⟩
        · rw [if_neg a, if_neg (by omega), if_neg (fun y => h_51 ⟨rfl, y⟩)] at hZ
          subst hZ
          rw [hsP_0] at R_48
          exact Or.inr ⟨by show ¬ (1 : Int32) = 0; decide, R_48⟩
      · replace h_51 := bI_1.mp h_51
        refine z_iconst (v := 1) F dX8_road_54 (by decide) ?_
        refine z_goto (tgt := 59) F dX8_road_55 (by decide) ?_
        refine z_istore_n (lv' := [_, _, _]) F dX8_road_59 (by decide) rfl rfl ?_
        refine z_goto (tgt := 28) F dX8_road_60 (by decide) ?_
        obtain ⟨z1, z2⟩ := h_51
        rcases hc with ⟨z3, a⟩ | ⟨_, a, b⟩
        · exact absurd (z1.symm.trans z3) (by decide)
        subst z1
        subst b
        rw [if_neg a, if_neg (by omega), if_pos z2] at hZ
        rw [hsP_0] at R_48
        exact ih (n + 1) _ _ _ (by omega) (rdP_le l5 (by decide)) R_48 hZ
  refine z_aload_n F dX8_road_0 rfl ?_
  refine z_iconst (v := 0) F dX8_road_1 (by decide) ?_
  refine zp_X8_at F (by with_reducible assumption) fl_X8_124 dX8_road_2 ?_
  refine z_aload_n F dX8_road_5 rfl ?_
  refine z_iconst (v := 0) F dX8_road_6 (by decide) ?_
  refine zp_X8_wrong F (by with_reducible assumption) fl_X8_127 (by decide) (by decide) dX8_road_7 ?_
  refine z_aload_n F dX8_road_10 rfl ?_
  refine z_iconst (v := 0) F dX8_road_11 (by decide) ?_
  refine zp_X8_manyThings F (by with_reducible assumption) fl_X8_139 dX8_road_12 ?_
  refine z_aload_n F dX8_road_15 rfl ?_
  refine z_iconst (v := 0) F dX8_road_16 (by decide) ?_
  refine zp_X8_manyPeople F (by with_reducible assumption) fl_X8_148 dX8_road_17 ?_
  refine z_aload_n F dX8_road_20 rfl ?_
  refine z_bipush (v := (-4)) F dX8_road_21 (by decide) ?_
  refine zp_X8_his F (by with_reducible assumption) fl_X8_154 dX8_road_23 ?_
  refine z_iconst (v := 1) F dX8_road_26 (by decide) ?_
  refine z_istore_n (lv' := [_, _, _]) F dX8_road_27 (by decide) rfl rfl ?_
  refine lp1 9 0 0 th0 _ (by omega) (Nat.zero_le _) ?_ rfl
  refine ⟨⟨rfl, fun b a1 a2 a3 => ?_, fun k hk2 => ?_⟩, ?_, ?_, ?_, ?_, ?_, ?_⟩
  · simp only [zs_off _ a1]
  · by_cases e : k = 15
    · subst e; simp +decide only [zs_g, if_true]
    · rw [zs_g, if_neg (by omega), zs_g, if_neg (by omega), zs_g, if_neg (by omega), zs_g, if_neg (by omega), zs_g, if_neg (by omega), zs_g, if_neg (by omega)]
  · simp +decide only [zs_g, if_false, if_true]
  · simp +decide only [zs_g, if_false, if_true]
  · simp +decide only [zs_g, if_false, if_true]
  · simp +decide only [zs_g, if_false, if_true]
  · rw [zs_off _ (by decide), zs_off _ (by decide), zs_off _ (by decide), zs_off _ (by decide), zs_off _ (by decide)]; exact hth0
  · rw [zs_off _ (by decide), zs_off _ (by decide), zs_off _ (by decide), zs_off _ (by decide), zs_off _ (by decide)]; exact hrp0
