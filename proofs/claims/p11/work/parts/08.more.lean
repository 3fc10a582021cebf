theorem z_iincc {w : zE} {g : zG} {own : String} {cc : ByteArray} {nL D pc : Nat} {lv lv' : List (Option Value)} {st : List Value} {M : zM} {n : Nat} {j : Int} {x c : Int32} (F : zF w g own cc nL D) (hd : decode cc pc = .ok (.iinc n j, 3)) (hv : lv[n]? = some (some (.int x))) (hj : Int32.ofInt j = c) (hn : n < nL) (hok : zok lv n = true) (he : lv.set n (some (.int (x + c))) = lv') (k : ZW w g nL (pc + 3) lv' st M) : ZW w g nL pc lv st M := z_iinc F hd hv (by rw [hj]) hn hok he k
theorem i32_eq {x y : Int32} (h : x.toInt = y.toInt) : x = y := Int32.toInt_inj.mp h
theorem z_tab3 {w : zE} {g : zG} {own : String} {cc : ByteArray} {nL D pc : Nat} {lv : List (Option Value)} {st : List Value} {M : zM} {x : Int32} {dflt : Int} {len dt : Nat} {o0 : Int} {tgt0 : Nat} {o1 : Int} {tgt1 : Nat} {o2 : Int} {tgt2 : Nat} (F : zF w g own cc nL D) (hd : decode cc pc = .ok (.tableswitch dflt 0 2 #[o0, o1, o2], len)) (t0 : (pc : Int) + o0 = (tgt0 : Int)) (t1 : (pc : Int) + o1 = (tgt1 : Int)) (t2 : (pc : Int) + o2 = (tgt2 : Int)) (td : (pc : Int) + dflt = (dt : Int)) (k0 : x = 0 → ZW w g nL tgt0 lv st M) (k1 : x = 1 → ZW w g nL tgt1 lv st M) (k2 : x = 2 → ZW w g nL tgt2 lv st M) (kd : ¬ x = 0 → ¬ x = 1 → ¬ x = 2 → ZW w g nL dt lv st M) : ZW w g nL pc lv (.int x :: st) M := by
  by_cases h0 : x = 0
  · subst h0; exact z_tableIn F hd (by decide) (by decide) rfl t0 (k0 rfl)
  by_cases h1 : x = 1
  · subst h1; exact z_tableIn F hd (by decide) (by decide) rfl t1 (k1 rfl)
  by_cases h2 : x = 2
  · subst h2; exact z_tableIn F hd (by decide) (by decide) rfl t2 (k2 rfl)
  refine z_tableOut F hd ?_ td (kd h0 h1 h2)
  rcases Int.lt_or_le x.toInt 0 with q | q
  · exact Or.inl q
  · rcases Int.lt_or_le 2 x.toInt with r | r
    · exact Or.inr r
    · exfalso
      have hx : x.toInt = 0 ∨ x.toInt = 1 ∨ x.toInt = 2 := by omega
      rcases hx with e | e | e
      · exact h0 (i32_eq (e.trans (by decide)))
      · exact h1 (i32_eq (e.trans (by decide)))
      · exact h2 (i32_eq (e.trans (by decide)))
theorem z_tab5 {w : zE} {g : zG} {own : String} {cc : ByteArray} {nL D pc : Nat} {lv : List (Option Value)} {st : List Value} {M : zM} {x : Int32} {dflt : Int} {len dt : Nat} {o0 : Int} {tgt0 : Nat} {o1 : Int} {tgt1 : Nat} {o2 : Int} {tgt2 : Nat} {o3 : Int} {tgt3 : Nat} {o4 : Int} {tgt4 : Nat} (F : zF w g own cc nL D) (hd : decode cc pc = .ok (.tableswitch dflt 0 4 #[o0, o1, o2, o3, o4], len)) (t0 : (pc : Int) + o0 = (tgt0 : Int)) (t1 : (pc : Int) + o1 = (tgt1 : Int)) (t2 : (pc : Int) + o2 = (tgt2 : Int)) (t3 : (pc : Int) + o3 = (tgt3 : Int)) (t4 : (pc : Int) + o4 = (tgt4 : Int)) (td : (pc : Int) + dflt = (dt : Int)) (k0 : x = 0 → ZW w g nL tgt0 lv st M) (k1 : x = 1 → ZW w g nL tgt1 lv st M) (k2 : x = 2 → ZW w g nL tgt2 lv st M) (k3 : x = 3 → ZW w g nL tgt3 lv st M) (k4 : x = 4 → ZW w g nL tgt4 lv st M) (kd : ¬ x = 0 → ¬ x = 1 → ¬ x = 2 → ¬ x = 3 → ¬ x = 4 → ZW w g nL dt lv st M) : ZW w g nL pc lv (.int x :: st) M := by
  by_cases h0 : x = 0
  · subst h0; exact z_tableIn F hd (by decide) (by decide) rfl t0 (k0 rfl)
  by_cases h1 : x = 1
  · subst h1; exact z_tableIn F hd (by decide) (by decide) rfl t1 (k1 rfl)
  by_cases h2 : x = 2
  · subst h2; exact z_tableIn F hd (by decide) (by decide) rfl t2 (k2 rfl)
  by_cases h3 : x = 3
  · subst h3; exact z_tableIn F hd (by decide) (by decide) rfl t3 (k3 rfl)
  by_cases h4 : x = 4
  · subst h4; exact z_tableIn F hd (by decide) (by decide) rfl t4 (k4 rfl)
  refine z_tableOut F hd ?_ td (kd h0 h1 h2 h3 h4)
  rcases Int.lt_or_le x.toInt 0 with q | q
  · exact Or.inl q
  · rcases Int.lt_or_le 4 x.toInt with r | r
    · exact Or.inr r
    · exfalso
      have hx : x.toInt = 0 ∨ x.toInt = 1 ∨ x.toInt = 2 ∨ x.toInt = 3 ∨ x.toInt = 4 := by omega
      rcases hx with e | e | e | e | e
      · exact h0 (i32_eq (e.trans (by decide)))
      · exact h1 (i32_eq (e.trans (by decide)))
      · exact h2 (i32_eq (e.trans (by decide)))
      · exact h3 (i32_eq (e.trans (by decide)))
      · exact h4 (i32_eq (e.trans (by decide)))
theorem z_tab10 {w : zE} {g : zG} {own : String} {cc : ByteArray} {nL D pc : Nat} {lv : List (Option Value)} {st : List Value} {M : zM} {x : Int32} {dflt : Int} {len dt : Nat} {o0 : Int} {tgt0 : Nat} {o1 : Int} {tgt1 : Nat} {o2 : Int} {tgt2 : Nat} {o3 : Int} {tgt3 : Nat} {o4 : Int} {tgt4 : Nat} {o5 : Int} {tgt5 : Nat} {o6 : Int} {tgt6 : Nat} {o7 : Int} {tgt7 : Nat} {o8 : Int} {tgt8 : Nat} {o9 : Int} {tgt9 : Nat} (F : zF w g own cc nL D) (hd : decode cc pc = .ok (.tableswitch dflt 0 9 #[o0, o1, o2, o3, o4, o5, o6, o7, o8, o9], len)) (t0 : (pc : Int) + o0 = (tgt0 : Int)) (t1 : (pc : Int) + o1 = (tgt1 : Int)) (t2 : (pc : Int) + o2 = (tgt2 : Int)) (t3 : (pc : Int) + o3 = (tgt3 : Int)) (t4 : (pc : Int) + o4 = (tgt4 : Int)) (t5 : (pc : Int) + o5 = (tgt5 : Int)) (t6 : (pc : Int) + o6 = (tgt6 : Int)) (t7 : (pc : Int) + o7 = (tgt7 : Int)) (t8 : (pc : Int) + o8 = (tgt8 : Int)) (t9 : (pc : Int) + o9 = (tgt9 : Int)) (td : (pc : Int) + dflt = (dt : Int)) (k0 : x = 0 → ZW w g nL tgt0 lv st M) (k1 : x = 1 → ZW w g nL tgt1 lv st M) (k2 : x = 2 → ZW w g nL tgt2 lv st M) (k3 : x = 3 → ZW w g nL tgt3 lv st M) (k4 : x = 4 → ZW w g nL tgt4 lv st M) (k5 : x = 5 → ZW w g nL tgt5 lv st M) (k6 : x = 6 → ZW w g nL tgt6 lv st M) (k7 : x = 7 → ZW w g nL tgt7 lv st M) (k8 : x = 8 → ZW w g nL tgt8 lv st M) (k9 : x = 9 → ZW w g nL tgt9 lv st M) (kd : ¬ x = 0 → ¬ x = 1 → ¬ x = 2 → ¬ x = 3 → ¬ x = 4 → ¬ x = 5 → ¬ x = 6 → ¬ x = 7 → ¬ x = 8 → ¬ x = 9 → ZW w g nL dt lv st M) : ZW w g nL pc lv (.int x :: st) M := by
  by_cases h0 : x = 0
  · subst h0; exact z_tableIn F hd (by decide) (by decide) rfl t0 (k0 rfl)
  by_cases h1 : x = 1
  · subst h1; exact z_tableIn F hd (by decide) (by decide) rfl t1 (k1 rfl)
  by_cases h2 : x = 2
  · subst h2; exact z_tableIn F hd (by decide) (by decide) rfl t2 (k2 rfl)
  by_cases h3 : x = 3
  · subst h3; exact z_tableIn F hd (by decide) (by decide) rfl t3 (k3 rfl)
  by_cases h4 : x = 4
  · subst h4; exact z_tableIn F hd (by decide) (by decide) rfl t4 (k4 rfl)
  by_cases h5 : x = 5
  · subst h5; exact z_tableIn F hd (by decide) (by decide) rfl t5 (k5 rfl)
  by_cases h6 : x = 6
  · subst h6; exact z_tableIn F hd (by decide) (by decide) rfl t6 (k6 rfl)
  by_cases h7 : x = 7
  · subst h7; exact z_tableIn F hd (by decide) (by decide) rfl t7 (k7 rfl)
  by_cases h8 : x = 8
  · subst h8; exact z_tableIn F hd (by decide) (by decide) rfl t8 (k8 rfl)
  by_cases h9 : x = 9
  · subst h9; exact z_tableIn F hd (by decide) (by decide) rfl t9 (k9 rfl)
  refine z_tableOut F hd ?_ td (kd h0 h1 h2 h3 h4 h5 h6 h7 h8 h9)
  rcases Int.lt_or_le x.toInt 0 with q | q
  · exact Or.inl q
  · rcases Int.lt_or_le 9 x.toInt with r | r
    · exact Or.inr r
    · exfalso
      have hx : x.toInt = 0 ∨ x.toInt = 1 ∨ x.toInt = 2 ∨ x.toInt = 3 ∨ x.toInt = 4 ∨ x.toInt = 5 ∨ x.toInt = 6 ∨ x.toInt = 7 ∨ x.toInt = 8 ∨ x.toInt = 9 := by omega
      rcases hx with e | e | e | e | e | e | e | e | e | e
      · exact h0 (i32_eq (e.trans (by decide)))
      · exact h1 (i32_eq (e.trans (by decide)))
      · exact h2 (i32_eq (e.trans (by decide)))
      · exact h3 (i32_eq (e.trans (by decide)))
      · exact h4 (i32_eq (e.trans (by decide)))
      · exact h5 (i32_eq (e.trans (by decide)))
      · exact h6 (i32_eq (e.trans (by decide)))
      · exact h7 (i32_eq (e.trans (by decide)))
      · exact h8 (i32_eq (e.trans (by decide)))
      · exact h9 (i32_eq (e.trans (by decide)))
theorem z_tab34 {w : zE} {g : zG} {own : String} {cc : ByteArray} {nL D pc : Nat} {lv : List (Option Value)} {st : List Value} {M : zM} {x : Int32} {dflt : Int} {len dt : Nat} {o0 : Int} {tgt0 : Nat} {o1 : Int} {tgt1 : Nat} {o2 : Int} {tgt2 : Nat} {o3 : Int} {tgt3 : Nat} {o4 : Int} {tgt4 : Nat} {o5 : Int} {tgt5 : Nat} {o6 : Int} {tgt6 : Nat} {o7 : Int} {tgt7 : Nat} {o8 : Int} {tgt8 : Nat} {o9 : Int} {tgt9 : Nat} {o10 : Int} {tgt10 : Nat} {o11 : Int} {tgt11 : Nat} {o12 : Int} {tgt12 : Nat} {o13 : Int} {tgt13 : Nat} {o14 : Int} {tgt14 : Nat} {o15 : Int} {tgt15 : Nat} {o16 : Int} {tgt16 : Nat} {o17 : Int} {tgt17 : Nat} {o18 : Int} {tgt18 : Nat} {o19 : Int} {tgt19 : Nat} {o20 : Int} {tgt20 : Nat} {o21 : Int} {tgt21 : Nat} {o22 : Int} {tgt22 : Nat} {o23 : Int} {tgt23 : Nat} {o24 : Int} {tgt24 : Nat} {o25 : Int} {tgt25 : Nat} {o26 : Int} {tgt26 : Nat} {o27 : Int} {tgt27 : Nat} {o28 : Int} {tgt28 : Nat} {o29 : Int} {tgt29 : Nat} {o30 : Int} {tgt30 : Nat} {o31 : Int} {tgt31 : Nat} {o32 : Int} {tgt32 : Nat} {o33 : Int} {tgt33 : Nat} (F : zF w g own cc nL D) (hd : decode cc pc = .ok (.tableswitch dflt 0 33 #[o0, o1, o2, o3, o4, o5, o6, o7, o8, o9, o10, o11, o12, o13, o14, o15, o16, o17, o18, o19, o20, o21, o22, o23, o24, o25, o26, o27, o28, o29, o30, o31, o32, o33], len)) (t0 : (pc : Int) + o0 = (tgt0 : Int)) (t1 : (pc : Int) + o1 = (tgt1 : Int)) (t2 : (pc : Int) + o2 = (tgt2 : Int)) (t3 : (pc : Int) + o3 = (tgt3 : Int)) (t4 : (pc : Int) + o4 = (tgt4 : Int)) (t5 : (pc : Int) + o5 = (tgt5 : Int)) (t6 : (pc : Int) + o6 = (tgt6 : Int)) (t7 : (pc : Int) + o7 = (tgt7 : Int)) (t8 : (pc : Int) + o8 = (tgt8 : Int)) (t9 : (pc : Int) + o9 = (tgt9 : Int)) (t10 : (pc : Int) + o10 = (tgt10 : Int)) (t11 : (pc : Int) + o11 = (tgt11 : Int)) (t12 : (pc : Int) + o12 = (tgt12 : Int)) (t13 : (pc : Int) + o13 = (tgt13 : Int)) (t14 : (pc : Int) + o14 = (tgt14 : Int)) (t15 : (pc : Int) + o15 = (tgt15 : Int)) (t16 : (pc : Int) + o16 = (tgt16 : Int)) (t17 : (pc : Int) + o17 = (tgt17 : Int)) (t18 : (pc : Int) + o18 = (tgt18 : Int)) (t19 : (pc : Int) + o19 = (tgt19 : Int)) (t20 : (pc : Int) + o20 = (tgt20 : Int)) (t21 : (pc : Int) + o21 = (tgt21 : Int)) (t22 : (pc : Int) + o22 = (tgt22 : Int)) (t23 : (pc : Int) + o23 = (tgt23 : Int)) (t24 : (pc : Int) + o24 = (tgt24 : Int)) (t25 : (pc : Int) + o25 = (tgt25 : Int)) (t26 : (pc : Int) + o26 = (tgt26 : Int)) (t27 : (pc : Int) + o27 = (tgt27 : Int)) (t28 : (pc : Int) + o28 = (tgt28 : Int)) (t29 : (pc : Int) + o29 = (tgt29 : Int)) (t30 : (pc : Int) + o30 = (tgt30 : Int)) (t31 : (pc : Int) + o31 = (tgt31 : Int)) (t32 : (pc : Int) + o32 = (tgt32 : Int)) (t33 : (pc : Int) + o33 = (tgt33 : Int)) (td : (pc : Int) + dflt = (dt : Int)) (k0 : x = 0 → ZW w g nL tgt0 lv st M) (k1 : x = 1 → ZW w g nL tgt1 lv st M) (k2 : x = 2 → ZW w g nL tgt2 lv st M) (k3 : x = 3 → ZW w g nL tgt3 lv st M) (k4 : x = 4 → ZW w g nL tgt4 lv st M) (k5 : x = 5 → ZW w g nL tgt5 lv st M) (k6 : x = 6 → ZW w g nL tgt6 lv st M) (k7 : x = 7 → ZW w g nL tgt7 lv st M) (k8 : x = 8 → ZW w g nL tgt8 lv st M) (k9 : x = 9 → ZW w g nL tgt9 lv st M) (k10 : x = 10 → ZW w g nL tgt10 lv st M) (k11 : x = 11 → ZW w g nL tgt11 lv st M) (k12 : x = 12 → ZW w g nL tgt12 lv st M) (k13 : x = 13 → ZW w g nL tgt13 lv st M) (k14 : x = 14 → ZW w g nL tgt14 lv st M) (k15 : x = 15 → ZW w g nL tgt15 lv st M) (k16 : x = 16 → ZW w g nL tgt16 lv st M) (k17 : x = 17 → ZW w g nL tgt17 lv st M) (k18 : x = 18 → ZW w g nL tgt18 lv st M) (k19 : x = 19 → ZW w g nL tgt19 lv st M) (k20 : x = 20 → ZW w g nL tgt20 lv st M) (k21 : x = 21 → ZW w g nL tgt21 lv st M) (k22 : x = 22 → ZW w g nL tgt22 lv st M) (k23 : x = 23 → ZW w g nL tgt23 lv st M) (k24 : x = 24 → ZW w g nL tgt24 lv st M) (k25 : x = 25 → ZW w g nL tgt25 lv st M) (k26 : x = 26 → ZW w g nL tgt26 lv st M) (k27 : x = 27 → ZW w g nL tgt27 lv st M) (k28 : x = 28 → ZW w g nL tgt28 lv st M) (k29 : x = 29 → ZW w g nL tgt29 lv st M) (k30 : x = 30 → ZW w g nL tgt30 lv st M) (k31 : x = 31 → ZW w g nL tgt31 lv st M) (k32 : x = 32 → ZW w g nL tgt32 lv st M) (k33 : x = 33 → ZW w g nL tgt33 lv st M) (kd : ¬ x = 0 → ¬ x = 1 → ¬ x = 2 → ¬ x = 3 → ¬ x = 4 → ¬ x = 5 → ¬ x = 6 → ¬ x = 7 → ¬ x = 8 → ¬ x = 9 → ¬ x = 10 → ¬ x = 11 → ¬ x = 12 → ¬ x = 13 → ¬ x = 14 → ¬ x = 15 → ¬ x = 16 → ¬ x = 17 → ¬ x = 18 → ¬ x = 19 → ¬ x = 20 → ¬ x = 21 → ¬ x = 22 → ¬ x = 23 → ¬ x = 24 → ¬ x = 25 → ¬ x = 26 → ¬ x = 27 → ¬ x = 28 → ¬ x = 29 → ¬ x = 30 → ¬ x = 31 → ¬ x = 32 → ¬ x = 33 → ZW w g nL dt lv st M) : ZW w g nL pc lv (.int x :: st) M := by
  by_cases h0 : x = 0
  · subst h0; exact z_tableIn F hd (by decide) (by decide) rfl t0 (k0 rfl)
  by_cases h1 : x = 1
  · subst h1; exact z_tableIn F hd (by decide) (by decide) rfl t1 (k1 rfl)
  by_cases h2 : x = 2
  · subst h2; exact z_tableIn F hd (by decide) (by decide) rfl t2 (k2 rfl)
  by_cases h3 : x = 3
  · subst h3; exact z_tableIn F hd (by decide) (by decide) rfl t3 (k3 rfl)
  by_cases h4 : x = 4
  · subst h4; exact z_tableIn F hd (by decide) (by decide) rfl t4 (k4 rfl)
  by_cases h5 : x = 5
  · subst h5; exact z_tableIn F hd (by decide) (by decide) rfl t5 (k5 rfl)
  by_cases h6 : x = 6
  · subst h6; exact z_tableIn F hd (by decide) (by decide) rfl t6 (k6 rfl)
  by_cases h7 : x = 7
  · subst h7; exact z_tableIn F hd (by decide) (by decide) rfl t7 (k7 rfl)
  by_cases h8 : x = 8
  · subst h8; exact z_tableIn F hd (by decide) (by decide) rfl t8 (k8 rfl)
  by_cases h9 : x = 9
  · subst h9; exact z_tableIn F hd (by decide) (by decide) rfl t9 (k9 rfl)
  by_cases h10 : x = 10
  · subst h10; exact z_tableIn F hd (by decide) (by decide) rfl t10 (k10 rfl)
  by_cases h11 : x = 11
  · subst h11; exact z_tableIn F hd (by decide) (by decide) rfl t11 (k11 rfl)
  by_cases h12 : x = 12
  · subst h12; exact z_tableIn F hd (by decide) (by decide) rfl t12 (k12 rfl)
  by_cases h13 : x = 13
  · subst h13; exact z_tableIn F hd (by decide) (by decide) rfl t13 (k13 rfl)
  by_cases h14 : x = 14
  · subst h14; exact z_tableIn F hd (by decide) (by decide) rfl t14 (k14 rfl)
  by_cases h15 : x = 15
  · subst h15; exact z_tableIn F hd (by decide) (by decide) rfl t15 (k15 rfl)
  by_cases h16 : x = 16
  · subst h16; exact z_tableIn F hd (by decide) (by decide) rfl t16 (k16 rfl)
  by_cases h17 : x = 17
  · subst h17; exact z_tableIn F hd (by decide) (by decide) rfl t17 (k17 rfl)
  by_cases h18 : x = 18
  · subst h18; exact z_tableIn F hd (by decide) (by decide) rfl t18 (k18 rfl)
  by_cases h19 : x = 19
  · subst h19; exact z_tableIn F hd (by decide) (by decide) rfl t19 (k19 rfl)
  by_cases h20 : x = 20
  · subst h20; exact z_tableIn F hd (by decide) (by decide) rfl t20 (k20 rfl)
  by_cases h21 : x = 21
  · subst h21; exact z_tableIn F hd (by decide) (by decide) rfl t21 (k21 rfl)
  by_cases h22 : x = 22
  · subst h22; exact z_tableIn F hd (by decide) (by decide) rfl t22 (k22 rfl)
  by_cases h23 : x = 23
  · subst h23; exact z_tableIn F hd (by decide) (by decide) rfl t23 (k23 rfl)
  by_cases h24 : x = 24
  · subst h24; exact z_tableIn F hd (by decide) (by decide) rfl t24 (k24 rfl)
  by_cases h25 : x = 25
  · subst h25; exact z_tableIn F hd (by decide) (by decide) rfl t25 (k25 rfl)
  by_cases h26 : x = 26
  · subst h26; exact z_tableIn F hd (by decide) (by decide) rfl t26 (k26 rfl)
  by_cases h27 : x = 27
  · subst h27; exact z_tableIn F hd (by decide) (by decide) rfl t27 (k27 rfl)
  by_cases h28 : x = 28
  · subst h28; exact z_tableIn F hd (by decide) (by decide) rfl t28 (k28 rfl)
  by_cases h29 : x = 29
  · subst h29; exact z_tableIn F hd (by decide) (by decide) rfl t29 (k29 rfl)
  by_cases h30 : x = 30
  · subst h30; exact z_tableIn F hd (by decide) (by decide) rfl t30 (k30 rfl)
  by_cases h31 : x = 31
  · subst h31; exact z_tableIn F hd (by decide) (by decide) rfl t31 (k31 rfl)
  by_cases h32 : x = 32
  · subst h32; exact z_tableIn F hd (by decide) (by decide) rfl t32 (k32 rfl)
  by_cases h33 : x = 33
  · subst h33; exact z_tableIn F hd (by decide) (by decide) rfl t33 (k33 rfl)
  refine z_tableOut F hd ?_ td (kd h0 h1 h2 h3 h4 h5 h6 h7 h8 h9 h10 h11 h12 h13 h14 h15 h16 h17 h18 h19 h20 h21 h22 h23 h24 h25 h26 h27 h28 h29 h30 h31 h32 h33)
  rcases Int.lt_or_le x.toInt 0 with q | q
  · exact Or.inl q
  · rcases Int.lt_or_le 33 x.toInt with r | r
    · exact Or.inr r
    · exfalso
      have hx : x.toInt = 0 ∨ x.toInt = 1 ∨ x.toInt = 2 ∨ x.toInt = 3 ∨ x.toInt = 4 ∨ x.toInt = 5 ∨ x.toInt = 6 ∨ x.toInt = 7 ∨ x.toInt = 8 ∨ x.toInt = 9 ∨ x.toInt = 10 ∨ x.toInt = 11 ∨ x.toInt = 12 ∨ x.toInt = 13 ∨ x.toInt = 14 ∨ x.toInt = 15 ∨ x.toInt = 16 ∨ x.toInt = 17 ∨ x.toInt = 18 ∨ x.toInt = 19 ∨ x.toInt = 20 ∨ x.toInt = 21 ∨ x.toInt = 22 ∨ x.toInt = 23 ∨ x.toInt = 24 ∨ x.toInt = 25 ∨ x.toInt = 26 ∨ x.toInt = 27 ∨ x.toInt = 28 ∨ x.toInt = 29 ∨ x.toInt = 30 ∨ x.toInt = 31 ∨ x.toInt = 32 ∨ x.toInt = 33 := by omega
      rcases hx with e | e | e | e | e | e | e | e | e | e | e | e | e | e | e | e | e | e | e | e | e | e | e | e | e | e | e | e | e | e | e | e | e | e
      · exact h0 (i32_eq (e.trans (by decide)))
      · exact h1 (i32_eq (e.trans (by decide)))
      · exact h2 (i32_eq (e.trans (by decide)))
      · exact h3 (i32_eq (e.trans (by decide)))
      · exact h4 (i32_eq (e.trans (by decide)))
      · exact h5 (i32_eq (e.trans (by decide)))
      · exact h6 (i32_eq (e.trans (by decide)))
      · exact h7 (i32_eq (e.trans (by decide)))
      · exact h8 (i32_eq (e.trans (by decide)))
      · exact h9 (i32_eq (e.trans (by decide)))
      · exact h10 (i32_eq (e.trans (by decide)))
      · exact h11 (i32_eq (e.trans (by decide)))
      · exact h12 (i32_eq (e.trans (by decide)))
      · exact h13 (i32_eq (e.trans (by decide)))
      · exact h14 (i32_eq (e.trans (by decide)))
      · exact h15 (i32_eq (e.trans (by decide)))
      · exact h16 (i32_eq (e.trans (by decide)))
      · exact h17 (i32_eq (e.trans (by decide)))
      · exact h18 (i32_eq (e.trans (by decide)))
      · exact h19 (i32_eq (e.trans (by decide)))
      · exact h20 (i32_eq (e.trans (by decide)))
      · exact h21 (i32_eq (e.trans (by decide)))
      · exact h22 (i32_eq (e.trans (by decide)))
      · exact h23 (i32_eq (e.trans (by decide)))
      · exact h24 (i32_eq (e.trans (by decide)))
      · exact h25 (i32_eq (e.trans (by decide)))
      · exact h26 (i32_eq (e.trans (by decide)))
      · exact h27 (i32_eq (e.trans (by decide)))
      · exact h28 (i32_eq (e.trans (by decide)))
      · exact h29 (i32_eq (e.trans (by decide)))
      · exact h30 (i32_eq (e.trans (by decide)))
      · exact h31 (i32_eq (e.trans (by decide)))
      · exact h32 (i32_eq (e.trans (by decide)))
      · exact h33 (i32_eq (e.trans (by decide)))
theorem z_look2 {w : zE} {g : zG} {own : String} {cc : ByteArray} {nL D pc : Nat} {lv : List (Option Value)} {st : List Value} {M : zM} {x : Int32} {dflt o0 o1 : Int} {len dt tgt0 tgt1 : Nat} (F : zF w g own cc nL D) (hd : decode cc pc = .ok (.lookupswitch dflt #[(0, o0), (1, o1)], len)) (t0 : (pc : Int) + o0 = (tgt0 : Int)) (t1 : (pc : Int) + o1 = (tgt1 : Int)) (td : (pc : Int) + dflt = (dt : Int)) (k0 : x = 0 → ZW w g nL tgt0 lv st M) (k1 : x = 1 → ZW w g nL tgt1 lv st M) (kd : ¬ x = 0 → ¬ x = 1 → ZW w g nL dt lv st M) : ZW w g nL pc lv (.int x :: st) M := by
  by_cases h0 : x = 0
  · subst h0; exact z_lookup F hd rfl rfl t0 (k0 rfl)
  by_cases h1 : x = 1
  · subst h1; exact z_lookup F hd rfl rfl t1 (k1 rfl)
  refine z_lookup F hd rfl (off := dflt) ?_ td (kd h0 h1)
  have e0 : ¬ x.toInt = 0 := fun e => h0 (i32_eq (e.trans (by decide)))
  have e1 : ¬ x.toInt = 1 := fun e => h1 (i32_eq (e.trans (by decide)))
  simp [Op.lookupswitch.offset]
  first | omega | grind
