section
theorem z_iincc {w : zE} {g : zG} {own : String} {cc : ByteArray} {nL D pc : Nat} {lv lv' : List (Option Value)} {st : List Value} {M : zM} {n : Nat} {j : Int} {x c : Int32} (F : zF w g own cc nL D) (hd : decode cc pc = .ok (.iinc n j, 3)) (hv : lv[n]? = some (some (.int x))) (hj : Int32.ofInt j = c) (hn : n < nL) (hok : zok lv n = true) (he : lv.set n (some (.int (x + c))) = lv') (k : ZW w g nL (pc + 3) lv' st M) : ZW w g nL pc lv st M := z_iinc F hd hv (by rw [hj]) hn hok he k
theorem i32_eq {x y : Int32} (h : x.toInt = y.toInt) : x = y := Int32.toInt_inj.mp h
theorem z_tab3 {w : zE} {g : zG} {own : String} {cc : ByteArray} {nL D pc : Nat} {lv : List (Option Value)} {st : List Value} {M : zM} {x : Int32} {dflt : Int} {len dt : Nat} {o0 : Int} {tgt0 : Nat} {o1 : Int} {tgt1 : Nat} {o2 : Int} {tgt2 : Nat} (F : zF w g own cc nL D) (hd : decode cc pc = .ok (.tableswitch dflt 0 2 #[o0, o1, o2], len)) (t0 : (pc : Int) + o0 = (tgt0 : Int)) (t1 : (pc : Int) + o1 = (tgt1 : Int)) (t2 : (pc : Int) + o2 = (tgt2 : Int)) (td : (pc : Int) + dflt = (dt : Int)) (k0 : x = 0 → ZW w g nL tgt0 lv st M) (k1 : x = 1 → ZW w g nL tgt1 lv st M) (k2 : x = 2 → ZW w g nL tgt2 lv st M) (kd : ¬ x = 0 → ¬ x = 1 → ¬ x = 2 → ZW w g nL dt lv st M) : ZW w g nL pc lv (.int x :: st) M := by
  by_cases h0 : x = 0
  · subst h0; exact z_tableIn F hd (by decide) (by decide) rfl t0 (k0 rfl)
  by_cases h1 : x = 1
  · subst h1; exact z_tableIn F hd (by decide) (by decide) rfl t1 (k1 rfl)
  by_cases h2 : x = 2
  · subst h2; exact z_tableIn F hd (by decide) (by decide) rfl t2 (k2 rfl)
  refine z_tableOut F hd ?_ td (kd h0 h1 h2)
  rcases Int.lt_or_le x.toInt 0 with q | q
  · exact Or.inl q
  · rcases Int.lt_or_le 2 x.toInt with r | r
    · exact Or.inr r
    · exfalso
      have hx : x.toInt = 0 ∨ x.toInt = 1 ∨ x.toInt = 2 := by omega
      rcases hx with e | e | e
      · exact h0 (i32_eq (e.trans (by decide)))
      · exact h1 (i32_eq (e.trans (by decide)))
      · exact h2 (i32_eq (e.trans (by decide)))
theorem z_tab5 {w : zE} {g : zG} {own : String} {cc : ByteArray} {nL D pc : Nat} {lv : List (Option Value)} {st : List Value} {M : zM} {x : Int32} {dflt : Int} {len dt : Nat} {o0 : Int} {tgt0 : Nat} {o1 : Int} {tgt1 : Nat} {o2 : Int} {tgt2 : Nat} {o3 : Int} {tgt3 : Nat} {o4 : Int} {tgt4 : Nat} (F : zF w g own cc nL D) (hd : decode cc pc = .ok (.tableswitch dflt 0 4 #[o0, o1, o2, o3, o4], len)) (t0 : (pc : Int) + o0 = (tgt0 : Int)) (t1 : (pc : Int) + o1 = (tgt1 : Int)) (t2 : (pc : Int) + o2 = (tgt2 : Int)) (t3 : (pc : Int) + o3 = (tgt3 : Int)) (t4 : (pc : Int) + o4 = (tgt4 : Int)) (td : (pc : Int) + dflt = (dt : Int)) (k0 : x = 0 → ZW w g nL tgt0 lv st M) (k1 : x = 1 → ZW w g nL tgt1 lv st M) (k2 : x = 2 → ZW w g nL tgt2 lv st M) (k3 : x = 3 → ZW w g nL tgt3 lv st M) (k4 : x = 4 → ZW w g nL tgt4 lv st M) (kd : ¬ x = 0 → ¬ x = 1 → ¬ x = 2 → ¬ x = 3 → ¬ x = 4 → ZW w g nL dt lv st M) : ZW w g nL pc lv (.int x :: st) M := by
  by_cases h0 : x = 0
  · subst h0; exact z_tableIn F hd (by decide) (by decide) rfl t0 (k0 rfl)
  by_cases h1 : x = 1
  · subst h1; exact z_tableIn F hd (by decide) (by decide) rfl t1 (k1 rfl)
  by_cases h2 : x = 2
  · subst h2; exact z_tableIn F hd (by decide) (by decide) rfl t2 (k2 rfl)
  by_cases h3 : x = 3
  · subst h3; exact z_tableIn F hd (by decide) (by decide) rfl t3 (k3 rfl)
  by_cases h4 : x = 4
  · subst h4; exact z_tableIn F hd (by decide) (by decide) rfl t4 (k4 rfl)
  refine z_tableOut F hd ?_ td (kd h0 h1 h2 h3 h4)
  rcases Int.lt_or_le x.toInt 0 with q | q
  · exact Or.inl q
  · rcases Int.lt_or_le 4 x.toInt with r | r
    · exact Or.inr r
    · exfalso
      have hx : x.toInt = 0 ∨ x.toInt = 1 ∨ x.toInt = 2 ∨ x.toInt = 3 ∨ x.toInt = 4 := by omega
      rcases hx with e | e | e | e | e
      · exact h0 (i32_eq (e.trans (by decide)))
      · exact h1 (i32_eq (e.trans (by decide)))
      · exact h2 (i32_eq (e.trans (by decide)))
      · exact h3 (i32_eq (e.trans (by decide)))
      · exact h4 (i32_eq (e.trans (by decide)))
theorem z_tab10 {w : zE} {g : zG} {own : String} {cc : ByteArray} {nL D pc : Nat} {lv : List (Option Value)} {st : List Value} {M : zM} {x : Int32} {dflt : Int} {len dt : Nat} {o0 : Int} {tgt0 : Nat} {o1 : Int} {tgt1 : Nat} {o2 : Int} {tgt2 : Nat} {o3 : Int} {tgt3 : Nat} {o4 : Int} {tgt4 : Nat} {o5 : Int} {tgt5 : Nat} {o6 : Int} {tgt6 : Nat} {o7 : Int} {tgt7 : Nat} {o8 : Int} {tgt8 : Nat} {o9 : Int} {tgt9 : Nat} (F : zF w g own cc nL D) (hd : decode cc pc = .ok (.tableswitch dflt 0 9 #[o0, o1, o2, o3, o4, o5, o6, o7, o8, o9], len)) (t0 : (pc : Int) + o0 = (tgt0 : Int)) (t1 : (pc : Int) + o1 = (tgt1 : Int)) (t2 : (pc : Int) + o2 = (tgt2 : Int)) (t3 : (pc : Int) + o3 = (tgt3 : Int)) (t4 : (pc : Int) + o4 = (tgt4 : Int)) (t5 : (pc : Int) + o5 = (tgt5 : Int)) (t6 : (pc : Int) + o6 = (tgt6 : Int)) (t7 : (pc : Int) + o7 = (tgt7 : Int)) (t8 : (pc : Int) + o8 = (tgt8 : Int)) (t9 : (pc : Int) + o9 = (tgt9 : Int)) (td : (pc : Int) + dflt = (dt : Int)) (k0 : x = 0 → ZW w g nL tgt0 lv st M) (k1 : x = 1 → ZW w g nL tgt1 lv st M) (k2 : x = 2 → ZW w g nL tgt2 lv st M) (k3 : x = 3 → ZW w g nL tgt3 lv st M) (k4 : x = 4 → ZW w g nL tgt4 lv st M) (k5 : x = 5 → ZW w g nL tgt5 lv st M) (k6 : x = 6 → ZW w g nL tgt6 lv st M) (k7 : x = 7 → ZW w g nL tgt7 lv st M) (k8 : x = 8 → ZW w g nL tgt8 lv st M) (k9 : x = 9 → ZW w g nL tgt9 lv st M) (kd : ¬ x = 0 → ¬ x = 1 → ¬ x = 2 → ¬ x = 3 → ¬ x = 4 → ¬ x = 5 → ¬ x = 6 → ¬ x = 7 → ¬ x = 8 → ¬ x = 9 → ZW w g nL dt lv st M) : ZW w g nL pc lv (.int x :: st) M := by
  by_cases h0 : x = 0
  · subst h0; exact z_tableIn F hd (by decide) (by decide) rfl t0 (k0 rfl)
  by_cases h1 : x = 1
  · subst h1; exact z_tableIn F hd (by decide) (by decide) rfl t1 (k1 rfl)
  by_cases h2 : x = 2
  · subst h2; exact z_tableIn F hd (by decide) (by decide) rfl t2 (k2 rfl)
  by_cases h3 : x = 3
  · subst h3; exact z_tableIn F hd (by decide) (by decide) rfl t3 (k3 rfl)
  by_cases h4 : x = 4
  · subst h4; exact z_tableIn F hd (by decide) (by decide) rfl t4 (k4 rfl)
  by_cases h5 : x = 5
  · subst h5; exact z_tableIn F hd (by decide) (by decide) rfl t5 (k5 rfl)
  by_cases h6 : x = 6
  · subst h6; exact z_tableIn F hd (by decide) (by decide) rfl t6 (k6 rfl)
  by_cases h7 : x = 7
  · subst h7; exact z_tableIn F hd (by decide) (by decide) rfl t7 (k7 rfl)
  by_cases h8 : x = 8
  · subst h8; exact z_tableIn F hd (by decide) (by decide) rfl t8 (k8 rfl)
  by_cases h9 : x = 9
  · subst h9; exact z_tableIn F hd (by decide) (by decide) rfl t9 (k9 rfl)
  refine z_tableOut F hd ?_ td (kd h0 h1 h2 h3 h4 h5 h6 h7 h8 h9)
  rcases Int.lt_or_le x.toInt 0 with q | q
  · exact Or.inl q
  · rcases Int.lt_or_le 9 x.toInt with r | r
    · exact Or.inr r
    · exfalso
      have hx : x.toInt = 0 ∨ x.toInt = 1 ∨ x.toInt = 2 ∨ x.toInt = 3 ∨ x.toInt = 4 ∨ x.toInt = 5 ∨ x.toInt = 6 ∨ x.toInt = 7 ∨ x.toInt = 8 ∨ x.toInt = 9 := by omega
      rcases hx with e | e | e | e | e | e | e | e | e | e
      · exact h0 (i32_eq (e.trans (by decide)))
      · exact h1 (i32_eq (e.trans (by decide)))
      · exact h2 (i32_eq (e.trans (by decide)))
      · exact h3 (i32_eq (e.trans (by decide)))
      · exact h4 (i32_eq (e.trans (by decide)))
      · exact h5 (i32_eq (e.trans (by decide)))
      · exact h6 (i32_eq (e.trans (by decide)))
      · exact h7 (i32_eq (e.trans (by decide)))
      · exact h8 (i32_eq (e.trans (by decide)))
      · exact h9 (i32_eq (e.trans (by decide)))
theorem z_tab34 {w : zE} {g : zG} {own : String} {cc : ByteArray} {nL D pc : Nat} {lv : List (Option Value)} {st : List Value} {M : zM} {x : Int32} {dflt : Int} {len dt : Nat} {o0 : Int} {tgt0 : Nat} {o1 : Int} {tgt1 : Nat} {o2 : Int} {tgt2 : Nat} {o3 : Int} {tgt3 : Nat} {o4 : Int} {tgt4 : Nat} {o5 : Int} {tgt5 : Nat} {o6 : Int} {tgt6 : Nat} {o7 : Int} {tgt7 : Nat} {o8 : Int} {tgt8 : Nat} {o9 : Int} {tgt9 : Nat} {o10 : Int} {tgt10 : Nat} {o11 : Int} {tgt11 : Nat} {o12 : Int} {tgt12 : Nat} {o13 : Int} {tgt13 : Nat} {o14 : Int} {tgt14 : Nat} {o15 : Int} {tgt15 : Nat} {o16 : Int} {tgt16 : Nat} {o17 : Int} {tgt17 : Nat} {o18 : Int} {tgt18 : Nat} {o19 : Int} {tgt19 : Nat} {o20 : Int} {tgt20 : Nat} {o21 : Int} {tgt21 : Nat} {o22 : Int} {tgt22 : Nat} {o23 : Int} {tgt23 : Nat} {o24 : Int} {tgt24 : Nat} {o25 : Int} {tgt25 : Nat} {o26 : Int} {tgt26 : Nat} {o27 : Int} {tgt27 : Nat} {o28 : Int} {tgt28 : Nat} {o29 : Int} {tgt29 : Nat} {o30 : Int} {tgt30 : Nat} {o31 : Int} {tgt31 : Nat} {o32 : Int} {tgt32 : Nat} {o33 : Int} {tgt33 : Nat} (F : zF w g own cc nL D) (hd : decode cc pc = .ok (.tableswitch dflt 0 33 #[o0, o1, o2, o3, o4, o5, o6, o7, o8, o9, o10, o11, o12, o13, o14, o15, o16, o17, o18, o19, o20, o21, o22, o23, o24, o25, o26, o27, o28, o29, o30, o31, o32, o33], len)) (t0 : (pc : Int) + o0 = (tgt0 : Int)) (t1 : (pc : Int) + o1 = (tgt1 : Int)) (t2 : (pc : Int) + o2 = (tgt2 : Int)) (t3 : (pc : Int) + o3 = (tgt3 : Int)) (t4 : (pc : Int) + o4 = (tgt4 : Int)) (t5 : (pc : Int) + o5 = (tgt5 : Int)) (t6 : (pc : Int) + o6 = (tgt6 : Int)) (t7 : (pc : Int) + o7 = (tgt7 : Int)) (t8 : (pc : Int) + o8 = (tgt8 : Int)) (t9 : (pc : Int) + o9 = (tgt9 : Int)) (t10 : (pc : Int) + o10 = (tgt10 : Int)) (t11 : (pc : Int) + o11 = (tgt11 : Int)) (t12 : (pc : Int) + o12 = (tgt12 : Int)) (t13 : (pc : Int) + o13 = (tgt13 : Int)) (t14 : (pc : Int) + o14 = (tgt14 : Int)) (t15 : (pc : Int) + o15 = (tgt15 : Int)) (t16 : (pc : Int) + o16 = (tgt16 : Int)) (t17 : (pc : Int) + o17 = (tgt17 : Int)) (t18 : (pc : Int) + o18 = (tgt18 : Int)) (t19 : (pc : Int) + o19 = (tgt19 : Int)) (t20 : (pc : Int) + o20 = (tgt20 : Int)) (t21 : (pc : Int) + o21 = (tgt21 : Int)) (t22 : (pc : Int) + o22 = (tgt22 : Int)) (t23 : (pc : Int) + o23 = (tgt23 : Int)) (t24 : (pc : Int) + o24 = (tgt24 : Int)) (t25 : (pc : Int) + o25 = (tgt25 : Int)) (t26 : (pc : Int) + o26 = (tgt26 : Int)) (t27 : (pc : Int) + o27 = (tgt27 : Int)) (t28 : (pc : Int) + o28 = (tgt28 : Int)) (t29 : (pc : Int) + o29 = (tgt29 : Int)) (t30 : (pc : Int) + o30 = (tgt30 : Int)) (t31 : (pc : Int) + o31 = (tgt31 : Int)) (t32 : (pc : Int) + o32 = (tgt32 : Int)) (t33 : (pc : Int) + o33 = (tgt33 : Int)) (td : (pc : Int) + dflt = (dt : Int)) (k0 : x = 0 → ZW w g nL tgt0 lv st M) (k1 : x = 1 → ZW w g nL tgt1 lv st M) (k2 : x = 2 → ZW w g nL tgt2 lv st M) (k3 : x = 3 → ZW w g nL tgt3 lv st M) (k4 : x = 4 → ZW w g nL tgt4 lv st M) (k5 : x = 5 → ZW w g nL tgt5 lv st M) (k6 : x = 6 → ZW w g nL tgt6 lv st M) (k7 : x = 7 → ZW w g nL tgt7 lv st M) (k8 : x = 8 → ZW w g nL tgt8 lv st M) (k9 : x = 9 → ZW w g nL tgt9 lv st M) (k10 : x = 10 → ZW w g nL tgt10 lv st M) (k11 : x = 11 → ZW w g nL tgt11 lv st M) (k12 : x = 12 → ZW w g nL tgt12 lv st M) (k13 : x = 13 → ZW w g nL tgt13 lv st M) (k14 : x = 14 → ZW w g nL tgt14 lv st M) (k15 : x = 15 → ZW w g nL tgt15 lv st M) (k16 : x = 16 → ZW w g nL tgt16 lv st M) (k17 : x = 17 → ZW w g nL tgt17 lv st M) (k18 : x = 18 → ZW w g nL tgt18 lv st M) (k19 : x = 19 → ZW w g nL tgt19 lv st M) (k20 : x = 20 → ZW w g nL tgt20 lv st M) (k21 : x = 21 → ZW w g nL tgt21 lv st M) (k22 : x = 22 → ZW w g nL tgt22 lv st M) (k23 : x = 23 → ZW w g nL tgt23 lv st M) (k24 : x = 24 → ZW w g nL tgt24 lv st M) (k25 : x = 25 → ZW w g nL tgt25 lv st M) (k26 : x = 26 → ZW w g nL tgt26 lv st M) (k27 : x = 27 → ZW w g nL tgt27 lv st M) (k28 : x = 28 → ZW w g nL tgt28 lv st M) (k29 : x = 29 → ZW w g nL tgt29 lv st M) (k30 : x = 30 → ZW w g nL tgt30 lv st M) (k31 : x = 31 → ZW w g nL tgt31 lv st M) (k32 : x = 32 → ZW w g nL tgt32 lv st M) (k33 : x = 33 → ZW w g nL tgt33 lv st M) (kd : ¬ x = 0 → ¬ x = 1 → ¬ x = 2 → ¬ x = 3 → ¬ x = 4 → ¬ x = 5 → ¬ x = 6 → ¬ x = 7 → ¬ x = 8 → ¬ x = 9 → ¬ x = 10 → ¬ x = 11 → ¬ x = 12 → ¬ x = 13 → ¬ x = 14 → ¬ x = 15 → ¬ x = 16 → ¬ x = 17 → ¬ x = 18 → ¬ x = 19 → ¬ x = 20 → ¬ x = 21 → ¬ x = 22 → ¬ x = 23 → ¬ x = 24 → ¬ x = 25 → ¬ x = 26 → ¬ x = 27 → ¬ x = 28 → ¬ x = 29 → ¬ x = 30 → ¬ x = 31 → ¬ x = 32 → ¬ x = 33 → ZW w g nL dt lv st M) : ZW w g nL pc lv (.int x :: st) M := by
  by_cases h0 : x = 0
  · subst h0; exact z_tableIn F hd (by decide) (by decide) rfl t0 (k0 rfl)
  by_cases h1 : x = 1
  · subst h1; exact z_tableIn F hd (by decide) (by decide) rfl t1 (k1 rfl)
  by_cases h2 : x = 2
  · subst h2; exact z_tableIn F hd (by decide) (by decide) rfl t2 (k2 rfl)
  by_cases h3 : x = 3
  · subst h3; exact z_tableIn F hd (by decide) (by decide) rfl t3 (k3 rfl)
  by_cases h4 : x = 4
  · subst h4; exact z_tableIn F hd (by decide) (by decide) rfl t4 (k4 rfl)
  by_cases h5 : x = 5
  · subst h5; exact z_tableIn F hd (by decide) (by decide) rfl t5 (k5 rfl)
  by_cases h6 : x = 6
  · subst h6; exact z_tableIn F hd (by decide) (by decide) rfl t6 (k6 rfl)
  by_cases h7 : x = 7
  · subst h7; exact z_tableIn F hd (by decide) (by decide) rfl t7 (k7 rfl)
  by_cases h8 : x = 8
  · subst h8; exact z_tableIn F hd (by decide) (by decide) rfl t8 (k8 rfl)
  by_cases h9 : x = 9
  · subst h9; exact z_tableIn F hd (by decide) (by decide) rfl t9 (k9 rfl)
  by_cases h10 : x = 10
  · subst h10; exact z_tableIn F hd (by decide) (by decide) rfl t10 (k10 rfl)
  by_cases h11 : x = 11
  · subst h11; exact z_tableIn F hd (by decide) (by decide) rfl t11 (k11 rfl)
  by_cases h12 : x = 12
  · subst h12; exact z_tableIn F hd (by decide) (by decide) rfl t12 (k12 rfl)
  by_cases h13 : x = 13
  · subst h13; exact z_tableIn F hd (by decide) (by decide) rfl t13 (k13 rfl)
  by_cases h14 : x = 14
  · subst h14; exact z_tableIn F hd (by decide) (by decide) rfl t14 (k14 rfl)
  by_cases h15 : x = 15
  · subst h15; exact z_tableIn F hd (by decide) (by decide) rfl t15 (k15 rfl)
  by_cases h16 : x = 16
  · subst h16; exact z_tableIn F hd (by decide) (by decide) rfl t16 (k16 rfl)
  by_cases h17 : x = 17
  · subst h17; exact z_tableIn F hd (by decide) (by decide) rfl t17 (k17 rfl)
  by_cases h18 : x = 18
  · subst h18; exact z_tableIn F hd (by decide) (by decide) rfl t18 (k18 rfl)
  by_cases h19 : x = 19
  · subst h19; exact z_tableIn F hd (by decide) (by decide) rfl t19 (k19 rfl)
  by_cases h20 : x = 20
  · subst h20; exact z_tableIn F hd (by decide) (by decide) rfl t20 (k20 rfl)
  by_cases h21 : x = 21
  · subst h21; exact z_tableIn F hd (by decide) (by decide) rfl t21 (k21 rfl)
  by_cases h22 : x = 22
  · subst h22; exact z_tableIn F hd (by decide) (by decide) rfl t22 (k22 rfl)
  by_cases h23 : x = 23
  · subst h23; exact z_tableIn F hd (by decide) (by decide) rfl t23 (k23 rfl)
  by_cases h24 : x = 24
  · subst h24; exact z_tableIn F hd (by decide) (by decide) rfl t24 (k24 rfl)
  by_cases h25 : x = 25
  · subst h25; exact z_tableIn F hd (by decide) (by decide) rfl t25 (k25 rfl)
  by_cases h26 : x = 26
  · subst h26; exact z_tableIn F hd (by decide) (by decide) rfl t26 (k26 rfl)
  by_cases h27 : x = 27
  · subst h27; exact z_tableIn F hd (by decide) (by decide) rfl t27 (k27 rfl)
  by_cases h28 : x = 28
  · subst h28; exact z_tableIn F hd (by decide) (by decide) rfl t28 (k28 rfl)
  by_cases h29 : x = 29
  · subst h29; exact z_tableIn F hd (by decide) (by decide) rfl t29 (k29 rfl)
  by_cases h30 : x = 30
  · subst h30; exact z_tableIn F hd (by decide) (by decide) rfl t30 (k30 rfl)
  by_cases h31 : x = 31
  · subst h31; exact z_tableIn F hd (by decide) (by decide) rfl t31 (k31 rfl)
  by_cases h32 : x = 32
  · subst h32; exact z_tableIn F hd (by decide) (by decide) rfl t32 (k32 rfl)
  by_cases h33 : x = 33
  · subst h33; exact z_tableIn F hd (by decide) (by decide) rfl t33 (k33 rfl)
  refine z_tableOut F hd ?_ td (kd h0 h1 h2 h3 h4 h5 h6 h7 h8 h9 h10 h11 h12 h13 h14 h15 h16 h17 h18 h19 h20 h21 h22 h23 h24 h25 h26 h27 h28 h29 h30 h31 h32 h33)
  rcases Int.lt_or_le x.toInt 0 with q | q
  · exact Or.inl q
  · rcases Int.lt_or_le 33 x.toInt with r | r
    · exact Or.inr r
    · exfalso
      have hx : x.toInt = 0 ∨ x.toInt = 1 ∨ x.toInt = 2 ∨ x.toInt = 3 ∨ x.toInt = 4 ∨ x.toInt = 5 ∨ x.toInt = 6 ∨ x.toInt = 7 ∨ x.toInt = 8 ∨ x.toInt = 9 ∨ x.toInt = 10 ∨ x.toInt = 11 ∨ x.toInt = 12 ∨ x.toInt = 13 ∨ x.toInt = 14 ∨ x.toInt = 15 ∨ x.toInt = 16 ∨ x.toInt = 17 ∨ x.toInt = 18 ∨ x.toInt = 19 ∨ x.toInt = 20 ∨ x.toInt = 21 ∨ x.toInt = 22 ∨ x.toInt = 23 ∨ x.toInt = 24 ∨ x.toInt = 25 ∨ x.toInt = 26 ∨ x.toInt = 27 ∨ x.toInt = 28 ∨ x.toInt = 29 ∨ x.toInt = 30 ∨ x.toInt = 31 ∨ x.toInt = 32 ∨ x.toInt = 33 := by omega
      rcases hx with e | e | e | e | e | e | e | e | e | e | e | e | e | e | e | e | e | e | e | e | e | e | e | e | e | e | e | e | e | e | e | e | e | e
      · exact h0 (i32_eq (e.trans (by decide)))
      · exact h1 (i32_eq (e.trans (by decide)))
      · exact h2 (i32_eq (e.trans (by decide)))
      · exact h3 (i32_eq (e.trans (by decide)))
      · exact h4 (i32_eq (e.trans (by decide)))
      · exact h5 (i32_eq (e.trans (by decide)))
      · exact h6 (i32_eq (e.trans (by decide)))
      · exact h7 (i32_eq (e.trans (by decide)))
      · exact h8 (i32_eq (e.trans (by decide)))
      · exact h9 (i32_eq (e.trans (by decide)))
      · exact h10 (i32_eq (e.trans (by decide)))
      · exact h11 (i32_eq (e.trans (by decide)))
      · exact h12 (i32_eq (e.trans (by decide)))
      · exact h13 (i32_eq (e.trans (by decide)))
      · exact h14 (i32_eq (e.trans (by decide)))
      · exact h15 (i32_eq (e.trans (by decide)))
      · exact h16 (i32_eq (e.trans (by decide)))
      · exact h17 (i32_eq (e.trans (by decide)))
      · exact h18 (i32_eq (e.trans (by decide)))
      · exact h19 (i32_eq (e.trans (by decide)))
      · exact h20 (i32_eq (e.trans (by decide)))
      · exact h21 (i32_eq (e.trans (by decide)))
      · exact h22 (i32_eq (e.trans (by decide)))
      · exact h23 (i32_eq (e.trans (by decide)))
      · exact h24 (i32_eq (e.trans (by decide)))
      · exact h25 (i32_eq (e.trans (by decide)))
      · exact h26 (i32_eq (e.trans (by decide)))
      · exact h27 (i32_eq (e.trans (by decide)))
      · exact h28 (i32_eq (e.trans (by decide)))
      · exact h29 (i32_eq (e.trans (by decide)))
      · exact h30 (i32_eq (e.trans (by decide)))
      · exact h31 (i32_eq (e.trans (by decide)))
      · exact h32 (i32_eq (e.trans (by decide)))
      · exact h33 (i32_eq (e.trans (by decide)))
theorem z_look2 {w : zE} {g : zG} {own : String} {cc : ByteArray} {nL D pc : Nat} {lv : List (Option Value)} {st : List Value} {M : zM} {x : Int32} {dflt o0 o1 : Int} {len dt tgt0 tgt1 : Nat} (F : zF w g own cc nL D) (hd : decode cc pc = .ok (.lookupswitch dflt #[(0, o0), (1, o1)], len)) (t0 : (pc : Int) + o0 = (tgt0 : Int)) (t1 : (pc : Int) + o1 = (tgt1 : Int)) (td : (pc : Int) + dflt = (dt : Int)) (k0 : x = 0 → ZW w g nL tgt0 lv st M) (k1 : x = 1 → ZW w g nL tgt1 lv st M) (kd : ¬ x = 0 → ¬ x = 1 → ZW w g nL dt lv st M) : ZW w g nL pc lv (.int x :: st) M := by
  by_cases h0 : x = 0
  · subst h0; exact z_lookup F hd rfl rfl t0 (k0 rfl)
  by_cases h1 : x = 1
  · subst h1; exact z_lookup F hd rfl rfl t1 (k1 rfl)
  refine z_lookup F hd rfl (off := dflt) ?_ td (kd h0 h1)
  have e0 : ¬ x.toInt = 0 := fun e => h0 (i32_eq (e.trans (by decide)))
  have e1 : ¬ x.toInt = 1 := fun e => h1 (i32_eq (e.trans (by decide)))
  simp [Op.lookupswitch.offset]
  first | omega | grind
end
section
/-! THE DOCUMENT'S WORDS over rows of ints: th: things, four ints each; T: his, n, mind, ahead, changes, then what each person has -/
abbrev zF1 : Type := Nat → Int32
def feltF (th : zF1) (j : Nat) (mind n : Int32) : Int32 :=
  if mind = 0 then (if th (4 * j) = 2 then th (4 * j + 2) + 2 * n else th (4 * j + 2))
  else if th (4 * j) = 1 ∨ th (4 * j) = 3 then (if th (4 * j) = 3 ∧ 3 ≤ n then th (4 * j + 3) + n + 5 else th (4 * j + 3) + n) else th (4 * j + 3)
def setF (f : zF1) (j : Nat) (a b c d : Int32) : zF1 := va_up (va_up (va_up (va_up f (4 * j) a) (4 * j + 1) b) (4 * j + 2) c) (4 * j + 3) d
/-- a number of one of n -/
def vdF (n x : Int32) : Prop := 0 ≤ x ∧ x < n
def bI (p : Prop) [Decidable p] : Int32 := if p then 1 else 0
theorem bI_nar (p : Prop) [Decidable p] : narrow .boolean (.int (bI p)) = .int (bI p) := by unfold bI; split <;> rfl
theorem bI_0 {p : Prop} [Decidable p] : bI p = 0 ↔ ¬ p := by unfold bI; split <;> simp_all
theorem bI_1 {p : Prop} [Decidable p] : ¬ bI p = 0 ↔ p := by unfold bI; split <;> simp_all
theorem bI_t {p : Prop} [Decidable p] (h : p) : 1 = bI p := (if_pos h).symm
theorem bI_f {p : Prop} [Decidable p] (h : ¬ p) : 0 = bI p := (if_neg h).symm
theorem vp_of {n : Nat} {N x : Int32} (h0 : 0 ≤ x) (h : x < N) (hN : N ≤ nI n) (hn : n < 2 ^ 31) : vp_in x n := by
  rw [vp_in_iff]
  have a := Int32.le_iff_toInt_le.mp h0
  have b := Int32.lt_iff_toInt_lt.mp h
  have c := Int32.le_iff_toInt_le.mp hN
  rw [nI_toInt hn] at c
  have d : (0 : Int32).toInt = 0 := by decide
  omega
theorem nlt {a b : Int32} (h : b ≤ a) : ¬ a < b := Int32.not_lt.mpr h
theorem nle {a b : Int32} (h : b < a) : ¬ a ≤ b := Int32.not_le.mpr h
theorem vpl (c : Int32) {n : Nat} {x : Int32} (hc : c.toInt = (n : Int)) (h : 0 ≤ x ∧ x < c) : vp_in x n := by
  rw [vp_in_iff]
  have a := Int32.le_iff_toInt_le.mp h.1
  have b := Int32.lt_iff_toInt_lt.mp h.2
  have d : (0 : Int32).toInt = 0 := by decide
  omega
theorem zs_at (M : zM) (b o : Nat) (v : Int32) : (zs M b o v).1 b = va_up (M.1 b) o v := va_up_self _ _ _
theorem zs_off (M : zM) {b c o : Nat} {v : Int32} (h : c ≠ b) : (zs M b o v).1 c = M.1 c := va_up_ne _ _ h
theorem za_at (M : zM) (b : Nat) (f : zF1) : (za M b f).1 b = f := va_up_self _ _ _
theorem za_off (M : zM) {b c : Nat} {f : zF1} (h : c ≠ b) : (za M b f).1 c = M.1 c := va_up_ne _ _ h
theorem zs_za (M : zM) (b o : Nat) (v : Int32) : zs M b o v = za M b (va_up (M.1 b) o v) := rfl
theorem za_za (M : zM) (b : Nat) (f h : zF1) : za (za M b f) b h = za M b h := by unfold za; simp only [bx_uu]
theorem za_self (M : zM) (b : Nat) : za M b (M.1 b) = M := by
  unfold za
  refine Prod.ext (funext fun j => ?_) rfl
  show va_up M.1 b (M.1 b) j = M.1 j
  by_cases h : j = b
  · subst h; exact va_up_self _ _ _
  · exact va_up_ne _ _ h
theorem za_swap (M : zM) {b c : Nat} (f h : zF1) (hne : b ≠ c) : za (za M b f) c h = za (za M c h) b f := by
  unfold za
  refine Prod.ext (funext fun j => ?_) rfl
  show va_up (va_up M.1 b f) c h j = va_up (va_up M.1 c h) b f j
  unfold va_up
  by_cases h1 : j = c
  · subst h1; simp [Ne.symm hne]
  · simp [h1]
theorem zk_ne {a b x y : Nat} (h1 : zk a = x) (h2 : zk b = y) (h : x ≠ y) : a ≠ b := by
  rintro rfl
  exact h (h1.symm.trans h2)
def feelF (th : zF1) (c : Int32) (T : zF1) : zF1 := va_up (va_up T 1 (T 1 + 1)) 2 (if feltF th (T 0).toNatClampNeg 1 (T 1 + 1) * c ≤ feltF th (T 0).toNatClampNeg 0 (T 1 + 1) then 0 else 1)
def worthO (th : zF1) (nt x : Int32) : Int32 := if 0 ≤ x ∧ x < nt then th (4 * x.toNatClampNeg + 1) else 0
def timesF (c m : Int32) : Int32 := if m = 1 then c else 1
theorem timesF_1 {c m : Int32} (h : m = 1) : timesF c m = c := if_pos h
theorem timesF_0 {c m : Int32} (h : ¬ m = 1) : timesF c m = 1 := if_neg h
abbrev gladF (th : zF1) (c hd : Int32) (T : zF1) (x : Int32) : Prop := feltF th x.toNatClampNeg (T 2) 0 < feltF th (T 0).toNatClampNeg (T 2) (T 1) * timesF c (T 2) ∧ th (4 * (T 0).toNatClampNeg + 1) - th (4 * x.toNatClampNeg + 1) ≤ hd
abbrev willF (th : zF1) (mg : Int32) (T : zF1) (x : Int32) : Prop := th (4 * x.toNatClampNeg + 1) + mg ≤ th (4 * (T 0).toNatClampNeg + 1)
/-- an offer: what he and the one at place s have then; whether it was refused -/
def offT (th : zF1) (mg hd c : Int32) (s : Nat) (T : zF1) : zF1 := if gladF th c hd T (T s) then (if willF th mg T (T s) then va_up (va_up (va_up (va_up T s (T 0)) 0 (T s)) 1 0) 4 (T 4 + 1) else T) else T
def offR (th : zF1) (mg hd c : Int32) (s : Nat) (T : zF1) (rf : Int32) : Int32 := if gladF th c hd T (T s) then (if willF th mg T (T s) then rf else if rf = -4 then T 3 else rf) else rf
/-- a trip's ints all at once: T, and the first milestone that refused him -/
def zt (M : zM) (t : Nat) (T : zF1) (rf : Int32) : zM := za (za M t T) (t + 1) (va_up (M.1 (t + 1)) 0 rf)
theorem va_up_id {α : Type} (f : Nat → α) (k : Nat) : va_up f k (f k) = f := by
  funext j
  unfold va_up
  split
  · next h => rw [h]
  · rfl
theorem zt_self (M : zM) (t : Nat) : zt M t (M.1 t) (M.1 (t + 1) 0) = M := by unfold zt; rw [za_self, va_up_id, za_self]
theorem zt_t (M : zM) (t : Nat) (T : zF1) (rf : Int32) : (zt M t T rf).1 t = T := by unfold zt; rw [za_off _ (by omega), za_at]
theorem zt_r (M : zM) (t : Nat) (T : zF1) (rf : Int32) : (zt M t T rf).1 (t + 1) = va_up (M.1 (t + 1)) 0 rf := by unfold zt; rw [za_at]
theorem zt_off {M : zM} {t c : Nat} {T : zF1} {rf : Int32} (h : c ≠ t) (h1 : c ≠ t + 1) : (zt M t T rf).1 c = M.1 c := by unfold zt; rw [za_off _ h1, za_off _ h]
theorem zt_2 (M : zM) (t : Nat) (T : zF1) (rf : Int32) : (zt M t T rf).2 = M.2 := rfl
theorem za_zt (M : zM) (t : Nat) (T : zF1) : za M t T = zt M t T (M.1 (t + 1) 0) := by
  unfold zt
  rw [va_up_id]
  conv => rhs; arg 3; rw [← za_off M (b := t) (f := T) (show t + 1 ≠ t by omega)]
  rw [za_self]
theorem zt_zt (M : zM) (t : Nat) (T T2 : zF1) (rf r2 : Int32) : zt (zt M t T rf) t T2 r2 = zt M t T2 r2 := by
  unfold zt
  rw [za_at, bx_uu, za_swap _ _ _ (show t + 1 ≠ t by omega), za_za, za_za]
theorem zs_zt (M : zM) (t : Nat) (T : zF1) (rf : Int32) (o : Nat) (v : Int32) : zs (zt M t T rf) t o v = zt M t (va_up T o v) rf := by
  rw [zs_za, zt_t]
  unfold zt
  rw [za_swap _ _ _ (show t + 1 ≠ t by omega), za_za]
theorem zs_ztr (M : zM) (t : Nat) (T : zF1) (rf v : Int32) : zs (zt M t T rf) (t + 1) 0 v = zt M t T v := by
  rw [zs_za, zt_r, bx_uu]
  unfold zt
  rw [za_za]
theorem za_ztt (M : zM) (t : Nat) (T T2 : zF1) (rf : Int32) : za (zt M t T rf) t T2 = zt M t T2 rf := by
  unfold zt
  rw [za_swap _ _ _ (show t + 1 ≠ t by omega), za_za]
/-- one of the people at a milestone; all of them; the well; a milestone. rb: number of things, of people, heed, well -/
def stepF (rb th pe : zF1) (c : Int32) (p : Nat) (s : zF1 × Int32) : zF1 × Int32 := if pe (2 * p) = s.1 3 ∧ (0 ≤ s.1 0 ∧ s.1 0 < rb 0) ∧ (0 ≤ s.1 (5 + p) ∧ s.1 (5 + p) < rb 0) then (offT th (pe (2 * p + 1)) (rb 2) c (5 + p) s.1, offR th (pe (2 * p + 1)) (rb 2) c (5 + p) s.1 s.2) else s
def peoF (rb th pe : zF1) (c : Int32) : Nat → zF1 × Int32 → zF1 × Int32
  | 0, s => s
  | k + 1, s => stepF rb th pe c k (peoF rb th pe c k s)
def wellF (rb th : zF1) (T : zF1) : zF1 := if rb 3 = T 3 ∧ (0 ≤ T 0 ∧ T 0 < rb 0) ∧ 10 ≤ feltF th (T 0).toNatClampNeg 0 (T 1) then va_up (va_up T 0 (-4)) 1 0 else T
def feelsF (rb th : zF1) (c : Int32) (T : zF1) : zF1 := if 0 ≤ T 0 ∧ T 0 < rb 0 then feelF th c T else T
def passF (rb th pe : zF1) (np : Nat) (c : Int32) (s : zF1 × Int32) : zF1 × Int32 :=
  (va_up (wellF rb th (peoF rb th pe c np (feelsF rb th c s.1, s.2)).1) 3 ((wellF rb th (peoF rb th pe c np (feelsF rb th c s.1, s.2)).1) 3 + 1), (peoF rb th pe c np (feelsF rb th c s.1, s.2)).2)
end
section
theorem c_X4_set {l : Launch} {w : zE} (J : zJ w) {M : zM} {i : Nat} {a b c d : Int32} (hk : zk i = 4) : zCv l w yX4_set cX4_set 5 0 [.ref (w.2.2 i), .int a, .int b, .int c, .int d] M (fun M2 => M2 = za M (zb i) (setF (M.1 (zb i)) (zo i) a b c d)) := by
  refine zCv_of J zm_X4_set [some (.ref (w.2.2 i)), some (.int a), some (.int b), some (.int c), some (.int d)] (Nat.le_of_ble_eq_true rfl) rfl (fun g hg F X => ?_)
  subst hg
  refine z_aload_n F dX4_set_0 rfl ?_
  refine z_iload_n F dX4_set_1 rfl ?_
  refine zp_X4_kind F (by with_reducible assumption) fl_X4_9 dX4_set_2 ?_
  refine z_aload_n F dX4_set_5 rfl ?_
  refine z_iload_n F dX4_set_6 rfl ?_
  refine zp_X4_worth F (by with_reducible assumption) fl_X4_15 dX4_set_7 ?_
  refine z_aload_n F dX4_set_10 rfl ?_
  refine z_iload_n F dX4_set_11 rfl ?_
  refine zp_X4_load F (by with_reducible assumption) fl_X4_18 dX4_set_12 ?_
  refine z_aload_n F dX4_set_15 rfl ?_
  refine z_iload F dX4_set_16 rfl ?_
  refine zp_X4_care F (by with_reducible assumption) fl_X4_21 dX4_set_18 ?_
  refine z_vret F X dX4_set_21 ?_
  unfold zs za setF
  simp only [va_up_self, bx_uu]
theorem c_X4_feltBy {l : Launch} {w : zE} (J : zJ w) {M : zM} {i : Nat} {mind n : Int32} (hk : zk i = 4) : zCi l w yX4_feltBy cX4_feltBy 3 (some .int) 0 [.ref (w.2.2 i), .int mind, .int n] M (fun r M2 => M2 = M ∧ r = feltF (M.1 (zb i)) (zo i) mind n) := by
  refine zCi_of J zm_X4_feltBy [some (.ref (w.2.2 i)), some (.int mind), some (.int n)] (Nat.le_of_ble_eq_true rfl) rfl (fun g hg F X => ?_)
  subst hg
  refine z_iload_n F dX4_feltBy_0 rfl ?_
  refine z_if_ne (tgt := 28) F dX4_feltBy_1 (by decide) (fun h_1 => ?_) (fun h_1 => ?_)
  · refine z_aload_n F dX4_feltBy_28 rfl ?_
    refine zg_X4_kind F (by with_reducible assumption) fl_X4_9 dX4_feltBy_29 ?_
    refine z_iconst (v := 1) F dX4_feltBy_32 (by decide) ?_
    refine z_ic_eq (tgt := 49) F dX4_feltBy_33 (by decide) (fun h_33 => ?_) (fun h_33 => ?_)
    · refine z_aload_n F dX4_feltBy_49 rfl ?_
      refine zg_X4_kind F (by with_reducible assumption) fl_X4_9 dX4_feltBy_50 ?_
      refine z_iconst (v := 3) F dX4_feltBy_53 (by decide) ?_
      refine z_ic_ne (tgt := 73) F dX4_feltBy_54 (by decide) (fun h_54 => ?_) (fun h_54 => ?_)
      · refine z_aload_n F dX4_feltBy_73 rfl ?_
        refine zg_X4_care F (by with_reducible assumption) fl_X4_21 dX4_feltBy_74 ?_
        refine z_iload_n F dX4_feltBy_77 rfl ?_
        refine z_iadd F dX4_feltBy_78 ?_
        refine z_iret F X dX4_feltBy_79 ?_
        exact ⟨rfl, by simp_all [feltF]⟩
      · refine z_iload_n F dX4_feltBy_57 rfl ?_
        refine z_iconst (v := 3) F dX4_feltBy_58 (by decide) ?_
        refine z_ic_lt (tgt := 73) F dX4_feltBy_59 (by decide) (fun h_59 => ?_) (fun h_59 => ?_)
        · refine z_aload_n F dX4_feltBy_73 rfl ?_
          refine zg_X4_care F (by with_reducible assumption) fl_X4_21 dX4_feltBy_74 ?_
          refine z_iload_n F dX4_feltBy_77 rfl ?_
          refine z_iadd F dX4_feltBy_78 ?_
          refine z_iret F X dX4_feltBy_79 ?_
          exact ⟨rfl, by simp_all [feltF]⟩
        · refine z_aload_n F dX4_feltBy_62 rfl ?_
          refine zg_X4_care F (by with_reducible assumption) fl_X4_21 dX4_feltBy_63 ?_
          refine z_iload_n F dX4_feltBy_66 rfl ?_
          refine z_iadd F dX4_feltBy_67 ?_
          refine z_iconst (v := 5) F dX4_feltBy_68 (by decide) ?_
          refine z_iadd F dX4_feltBy_69 ?_
          refine z_goto (tgt := 79) F dX4_feltBy_70 (by decide) ?_
          refine z_iret F X dX4_feltBy_79 ?_
          exact ⟨rfl, by simp_all [feltF]⟩
    · refine z_aload_n F dX4_feltBy_36 rfl ?_
      refine zg_X4_kind F (by with_reducible assumption) fl_X4_9 dX4_feltBy_37 ?_
      refine z_iconst (v := 3) F dX4_feltBy_40 (by decide) ?_
      refine z_ic_eq (tgt := 49) F dX4_feltBy_41 (by decide) (fun h_41 => ?_) (fun h_41 => ?_)
      · refine z_aload_n F dX4_feltBy_49 rfl ?_
        refine zg_X4_kind F (by with_reducible assumption) fl_X4_9 dX4_feltBy_50 ?_
        refine z_iconst (v := 3) F dX4_feltBy_53 (by decide) ?_
        refine z_ic_ne (tgt := 73) F dX4_feltBy_54 (by decide) (fun h_54 => ?_) (fun h_54 => ?_)
        · refine z_aload_n F dX4_feltBy_73 rfl ?_
          refine zg_X4_care F (by with_reducible assumption) fl_X4_21 dX4_feltBy_74 ?_
          refine z_iload_n F dX4_feltBy_77 rfl ?_
          refine z_iadd F dX4_feltBy_78 ?_
          refine z_iret F X dX4_feltBy_79 ?_
          exact ⟨rfl, by simp_all [feltF]⟩
        · refine z_iload_n F dX4_feltBy_57 rfl ?_
          refine z_iconst (v := 3) F dX4_feltBy_58 (by decide) ?_
          refine z_ic_lt (tgt := 73) F dX4_feltBy_59 (by decide) (fun h_59 => ?_) (fun h_59 => ?_)
          · refine z_aload_n F dX4_feltBy_73 rfl ?_
            refine zg_X4_care F (by with_reducible assumption) fl_X4_21 dX4_feltBy_74 ?_
            refine z_iload_n F dX4_feltBy_77 rfl ?_
            refine z_iadd F dX4_feltBy_78 ?_
            refine z_iret F X dX4_feltBy_79 ?_
            exact ⟨rfl, by simp_all [feltF]⟩
          · refine z_aload_n F dX4_feltBy_62 rfl ?_
            refine zg_X4_care F (by with_reducible assumption) fl_X4_21 dX4_feltBy_63 ?_
            refine z_iload_n F dX4_feltBy_66 rfl ?_
            refine z_iadd F dX4_feltBy_67 ?_
            refine z_iconst (v := 5) F dX4_feltBy_68 (by decide) ?_
            refine z_iadd F dX4_feltBy_69 ?_
            refine z_goto (tgt := 79) F dX4_feltBy_70 (by decide) ?_
            refine z_iret F X dX4_feltBy_79 ?_
            exact ⟨rfl, by simp_all [feltF]⟩
      · refine z_aload_n F dX4_feltBy_44 rfl ?_
        refine zg_X4_care F (by with_reducible assumption) fl_X4_21 dX4_feltBy_45 ?_
        refine z_iret F X dX4_feltBy_48 ?_
        exact ⟨rfl, by simp_all [feltF]⟩
  · refine z_aload_n F dX4_feltBy_4 rfl ?_
    refine zg_X4_kind F (by with_reducible assumption) fl_X4_9 dX4_feltBy_5 ?_
    refine z_iconst (v := 2) F dX4_feltBy_8 (by decide) ?_
    refine z_ic_ne (tgt := 23) F dX4_feltBy_9 (by decide) (fun h_9 => ?_) (fun h_9 => ?_)
    · refine z_aload_n F dX4_feltBy_23 rfl ?_
      refine zg_X4_load F (by with_reducible assumption) fl_X4_18 dX4_feltBy_24 ?_
      refine z_iret F X dX4_feltBy_27 ?_
      exact ⟨rfl, by simp_all [feltF]⟩
    · refine z_aload_n F dX4_feltBy_12 rfl ?_
      refine zg_X4_load F (by with_reducible assumption) fl_X4_18 dX4_feltBy_13 ?_
      refine z_iconst (v := 2) F dX4_feltBy_16 (by decide) ?_
      refine z_iload_n F dX4_feltBy_17 rfl ?_
      refine z_imul F dX4_feltBy_18 ?_
      refine z_iadd F dX4_feltBy_19 ?_
      refine z_goto (tgt := 27) F dX4_feltBy_20 (by decide) ?_
      refine z_iret F X dX4_feltBy_27 ?_
      exact ⟨rfl, by simp_all [feltF]⟩
theorem c_X5_hasNew {l : Launch} {w : zE} (J : zJ w) {M : zM} {t : Nat} {x : Int32} (hk : zk t = 5) : zCv l w yX5_hasNew cX5_hasNew 2 0 [.ref (w.2.2 t), .int x] M (fun M2 => M2 = zs (zs M t 0 x) t 1 0) := by
  refine zCv_of J zm_X5_hasNew [some (.ref (w.2.2 t)), some (.int x)] (Nat.le_of_ble_eq_true rfl) rfl (fun g hg F X => ?_)
  subst hg
  refine z_aload_n F dX5_hasNew_0 rfl ?_
  refine z_iload_n F dX5_hasNew_1 rfl ?_
  refine zp_X5_his F (by with_reducible assumption) fl_X5_9 dX5_hasNew_2 ?_
  refine z_aload_n F dX5_hasNew_5 rfl ?_
  refine z_iconst (v := 0) F dX5_hasNew_6 (by decide) ?_
  refine zp_X5_n F (by with_reducible assumption) fl_X5_22 dX5_hasNew_7 ?_
  refine z_vret F X dX5_hasNew_10 ?_
  rfl
theorem c_X5_setOut {l : Launch} {w : zE} (J : zJ w) {M : zM} {t : Nat} (hk : zk t = 5) : zCv l w yX5_setOut cX5_setOut 1 1 [.ref (w.2.2 t)] M (fun M2 => M2 = zs (zs (zs (zs M t 0 (-4)) t 1 0) t 2 0) t 3 0) := by
  refine zCv_of J zm_X5_setOut [some (.ref (w.2.2 t))] (Nat.le_of_ble_eq_true rfl) rfl (fun g hg F X => ?_)
  subst hg
  refine z_aload_n F dX5_setOut_0 rfl ?_
  refine z_bipush (v := (-4)) F dX5_setOut_1 (by decide) ?_
  refine z_callVv F (c_X5_hasNew J (by with_reducible assumption)) zm_X5_hasNew zv_X5_hasNew ml_X5_40 (by with_reducible assumption) (by decide) rfl rfl rfl (Nat.le_of_ble_eq_true rfl) dX5_setOut_3 (by decide) (fun M_3 h_3 => ?_)
  replace h_3 := Eq.symm h_3
  subst h_3
  refine z_aload_n F dX5_setOut_6 rfl ?_
  refine z_iconst (v := 0) F dX5_setOut_7 (by decide) ?_
  refine zp_X5_mind F (by with_reducible assumption) fl_X5_25 dX5_setOut_8 ?_
  refine z_aload_n F dX5_setOut_11 rfl ?_
  refine z_iconst (v := 0) F dX5_setOut_12 (by decide) ?_
  refine zp_X5_ahead F (by with_reducible assumption) fl_X5_28 dX5_setOut_13 ?_
  refine z_vret F X dX5_setOut_16 ?_
  rfl
theorem c_X1_isThing {l : Launch} {w : zE} (J : zJ w) {M : zM} {r : Nat} {x : Int32} (hk : zk r = 1) : zCi l w yX1_isThing cX1_isThing 2 (some .boolean) 0 [.ref (w.2.2 r), .int x] M (fun v M2 => M2 = M ∧ v = bI (0 ≤ x ∧ x < M.1 r 0)) := by
  refine zCi_of J zm_X1_isThing [some (.ref (w.2.2 r)), some (.int x)] (Nat.le_of_ble_eq_true rfl) rfl (fun g hg F X => ?_)
  subst hg
  refine z_iload_n F dX1_isThing_0 rfl ?_
  refine z_if_lt (tgt := 16) F dX1_isThing_1 (by decide) (fun h_1 => ?_) (fun h_1 => ?_)
  · refine z_iconst (v := 0) F dX1_isThing_16 (by decide) ?_
    refine z_zret F X dX1_isThing_17 (by decide) ?_
    exact ⟨rfl, by unfold bI; grind⟩
  · refine z_iload_n F dX1_isThing_4 rfl ?_
    refine z_aload_n F dX1_isThing_5 rfl ?_
    refine zg_X1_thingCount F (by with_reducible assumption) fl_X1_48 dX1_isThing_6 ?_
    refine z_ic_ge (tgt := 16) F dX1_isThing_9 (by decide) (fun h_9 => ?_) (fun h_9 => ?_)
    · refine z_iconst (v := 0) F dX1_isThing_16 (by decide) ?_
      refine z_zret F X dX1_isThing_17 (by decide) ?_
      exact ⟨rfl, by unfold bI; grind⟩
    · refine z_iconst (v := 1) F dX1_isThing_12 (by decide) ?_
      refine z_goto (tgt := 17) F dX1_isThing_13 (by decide) ?_
      refine z_zret F X dX1_isThing_17 (by decide) ?_
      exact ⟨rfl, by unfold bI; grind⟩
theorem c_X1_isPerson {l : Launch} {w : zE} (J : zJ w) {M : zM} {r : Nat} {x : Int32} (hk : zk r = 1) : zCi l w yX1_isPerson cX1_isPerson 2 (some .boolean) 0 [.ref (w.2.2 r), .int x] M (fun v M2 => M2 = M ∧ v = bI (0 ≤ x ∧ x < M.1 r 1)) := by
  refine zCi_of J zm_X1_isPerson [some (.ref (w.2.2 r)), some (.int x)] (Nat.le_of_ble_eq_true rfl) rfl (fun g hg F X => ?_)
  subst hg
  refine z_iload_n F dX1_isPerson_0 rfl ?_
  refine z_if_lt (tgt := 16) F dX1_isPerson_1 (by decide) (fun h_1 => ?_) (fun h_1 => ?_)
  · refine z_iconst (v := 0) F dX1_isPerson_16 (by decide) ?_
    refine z_zret F X dX1_isPerson_17 (by decide) ?_
    exact ⟨rfl, by unfold bI; grind⟩
  · refine z_iload_n F dX1_isPerson_4 rfl ?_
    refine z_aload_n F dX1_isPerson_5 rfl ?_
    refine zg_X1_personCount F (by with_reducible assumption) fl_X1_57 dX1_isPerson_6 ?_
    refine z_ic_ge (tgt := 16) F dX1_isPerson_9 (by decide) (fun h_9 => ?_) (fun h_9 => ?_)
    · refine z_iconst (v := 0) F dX1_isPerson_16 (by decide) ?_
      refine z_zret F X dX1_isPerson_17 (by decide) ?_
      exact ⟨rfl, by unfold bI; grind⟩
    · refine z_iconst (v := 1) F dX1_isPerson_12 (by decide) ?_
      refine z_goto (tgt := 17) F dX1_isPerson_13 (by decide) ?_
      refine z_zret F X dX1_isPerson_17 (by decide) ?_
      exact ⟨rfl, by unfold bI; grind⟩
theorem tst1 {x y a : Int32} (h : x < 0) : ¬ (0 ≤ x ∧ x < y) := by grind
theorem tst2 {x y a : Int32} (h : ¬ 0 ≤ x) (h2 : 5 ≤ x + 3) (h3 : x < 99) (h4 : 0 < x): x + 3 < 103 := by grind
theorem tst3 {x y a : Int32} (h : 0 ≤ x) (h2 : x ≤ 99) (h3 : 0 ≤ y) (h4 : y ≤ 20) (h5 : x + y ≤ a): x ≤ a := by grind
end
section
theorem c_X1_worthOf {l : Launch} {w : zE} (J : zJ w) {M : zM} {r : Nat} {x : Int32} (hk : zk r = 1) (hn : M.1 r 0 ≤ 10) : zCi l w yX1_worthOf cX1_worthOf 2 (some .int) 1 [.ref (w.2.2 r), .int x] M (fun v M2 => M2 = M ∧ v = worthO (M.1 (r + 1)) (M.1 r 0) x) := by
  refine zCi_of J zm_X1_worthOf [some (.ref (w.2.2 r)), some (.int x)] (Nat.le_of_ble_eq_true rfl) rfl (fun g hg F X => ?_)
  subst hg
  refine z_aload_n F dX1_worthOf_0 rfl ?_
  refine z_iload_n F dX1_worthOf_1 rfl ?_
  refine z_callVi F (c_X1_isThing J (by with_reducible assumption)) zm_X1_isThing zv_X1_isThing ml_X1_65 (by with_reducible assumption) (by decide) rfl rfl rfl (Nat.le_of_ble_eq_true rfl) dX1_worthOf_2 (by decide) (fun r_2 M_2 h_2 => ?_)
  obtain ⟨e_2, rfl⟩ := h_2
  replace e_2 := Eq.symm e_2
  subst e_2
  refine z_if_eq (tgt := 20) F dX1_worthOf_5 (by decide) (fun h_5 => ?_) (fun h_5 => ?_)
  · replace h_5 := bI_0.mp h_5
    refine z_iconst (v := 0) F dX1_worthOf_20 (by decide) ?_
    refine z_iret F X dX1_worthOf_21 ?_
    first | exact ⟨rfl, by rw [hb_13, ho_13, worthO, if_pos h_5]⟩ | exact ⟨rfl, by rw [worthO, if_neg h_5]⟩
  · replace h_5 := bI_1.mp h_5
    refine z_aload_n F dX1_worthOf_8 rfl ?_
    refine zg_X1_things F (by with_reducible assumption) fl_X1_11 dX1_worthOf_9 (fun hk_9 => ?_)
    refine z_iload_n F dX1_worthOf_12 rfl ?_
    refine z_aald16 F (by with_reducible assumption) (vpl 10 (by decide) (by first | with_reducible assumption | grind)) dX1_worthOf_13 (fun hk_13 hb_13 ho_13 => ?_)
    refine zg_X4_worth F (by with_reducible assumption) fl_X1_35 dX1_worthOf_14 ?_
    refine z_goto (tgt := 21) F dX1_worthOf_17 (by decide) ?_
    refine z_iret F X dX1_worthOf_21 ?_
    first | exact ⟨rfl, by rw [hb_13, ho_13, worthO, if_pos h_5]⟩ | exact ⟨rfl, by rw [worthO, if_neg h_5]⟩
theorem c_X1_feelOneMore {l : Launch} {w : zE} (J : zJ w) {M : zM} {r t : Nat} {c : Int32} (hk : zk r = 1) (ht : zk t = 5) (hh : 0 ≤ M.1 t 0 ∧ M.1 t 0 < 10) : zCv l w yX1_feelOneMore cX1_feelOneMore 5 1 [.ref (w.2.2 r), .ref (w.2.2 t), .int c] M (fun M2 => M2 = za M t (feelF (M.1 (r + 1)) c (M.1 t))) := by
  have e1 := (zkf1 r (zk_i hk (by decide)) hk).1
  have n1 : r + 1 ≠ t := zk_ne e1 ht (by decide)
  refine zCv_of J zm_X1_feelOneMore [some (.ref (w.2.2 r)), some (.ref (w.2.2 t)), some (.int c), none, none] (Nat.le_of_ble_eq_true rfl) rfl (fun g hg F X => ?_)
  subst hg
  refine z_aload_n F dX1_feelOneMore_0 rfl ?_
  refine z_dup F dX1_feelOneMore_1 rfl ?_
  refine zg_X5_n F (by with_reducible assumption) fl_X1_86 dX1_feelOneMore_2 ?_
  refine z_iconst (v := 1) F dX1_feelOneMore_5 (by decide) ?_
  refine z_iadd F dX1_feelOneMore_6 ?_
  refine zp_X5_n F (by with_reducible assumption) fl_X1_86 dX1_feelOneMore_7 ?_
  refine z_aload_n F dX1_feelOneMore_10 rfl ?_
  refine zg_X1_things F (by with_reducible assumption) fl_X1_11 dX1_feelOneMore_11 (fun hk_11 => ?_)
  refine z_aload_n F dX1_feelOneMore_14 rfl ?_
  refine zg_X5_his F (by with_reducible assumption) fl_X1_69 dX1_feelOneMore_15 ?_
  rw [zs_at, va_up_ne _ _ (by decide)]
  refine z_aald16 F (by with_reducible assumption) (vpl 10 (by decide) hh) dX1_feelOneMore_18 (fun hk_18 hb_18 ho_18 => ?_)
  refine z_astore_n (lv' := [_, _, _, _, _]) F dX1_feelOneMore_19 (by decide) rfl rfl ?_
  refine z_aload_n F dX1_feelOneMore_20 rfl ?_
  refine z_iconst (v := 0) F dX1_feelOneMore_21 (by decide) ?_
  refine z_aload_n F dX1_feelOneMore_22 rfl ?_
  refine zg_X5_n F (by with_reducible assumption) fl_X1_86 dX1_feelOneMore_23 ?_
  refine z_callVi F (c_X4_feltBy J (by with_reducible assumption)) zm_X4_feltBy zv_X4_feltBy ml_X1_89 (by with_reducible assumption) (by decide) rfl rfl rfl (Nat.le_of_ble_eq_true rfl) dX1_feelOneMore_26 (by decide) (fun r_26 M_26 h_26 => ?_)
  obtain ⟨e_26, rfl⟩ := h_26
  replace e_26 := Eq.symm e_26
  subst e_26
  refine z_aload_n F dX1_feelOneMore_29 rfl ?_
  refine z_iconst (v := 1) F dX1_feelOneMore_30 (by decide) ?_
  refine z_aload_n F dX1_feelOneMore_31 rfl ?_
  refine zg_X5_n F (by with_reducible assumption) fl_X1_86 dX1_feelOneMore_32 ?_
  refine z_callVi F (c_X4_feltBy J (by with_reducible assumption)) zm_X4_feltBy zv_X4_feltBy ml_X1_89 (by with_reducible assumption) (by decide) rfl rfl rfl (Nat.le_of_ble_eq_true rfl) dX1_feelOneMore_35 (by decide) (fun r_35 M_35 h_35 => ?_)
  obtain ⟨e_35, rfl⟩ := h_35
  replace e_35 := Eq.symm e_35
  subst e_35
  refine z_iload_n F dX1_feelOneMore_38 rfl ?_
  refine z_imul F dX1_feelOneMore_39 ?_
  refine z_ic_lt (tgt := 47) F dX1_feelOneMore_40 (by decide) (fun h_40 => ?_) (fun h_40 => ?_)
  · refine z_iconst (v := 0) F dX1_feelOneMore_47 (by decide) ?_
    refine z_istore (lv' := [_, _, _, _, _]) F dX1_feelOneMore_48 (by decide) rfl rfl ?_
    refine z_aload_n F dX1_feelOneMore_50 rfl ?_
    refine z_iload F dX1_feelOneMore_51 rfl ?_
    refine z_if_eq (tgt := 60) F dX1_feelOneMore_53 (by decide) (fun h_53 => ?_) (fun h_53 => absurd h_53 (by decide))
    refine z_iconst (v := 1) F dX1_feelOneMore_60 (by decide) ?_
    refine zp_X5_mind F (by with_reducible assumption) fl_X1_97 dX1_feelOneMore_61 ?_
    refine z_vret F X dX1_feelOneMore_64 ?_
    simp only [hb_18, ho_18, zs_at, va_up_self, zs_off _ n1] at h_40
    simp only [zs_za, za_za, za_at]
    first | rw [feelF, if_pos h_40] | rw [feelF, if_neg (nle h_40)]
  · refine z_iconst (v := 1) F dX1_feelOneMore_43 (by decide) ?_
    refine z_goto (tgt := 48) F dX1_feelOneMore_44 (by decide) ?_
    refine z_istore (lv' := [_, _, _, _, _]) F dX1_feelOneMore_48 (by decide) rfl rfl ?_
    refine z_aload_n F dX1_feelOneMore_50 rfl ?_
    refine z_iload F dX1_feelOneMore_51 rfl ?_
    refine z_if_eq (tgt := 60) F dX1_feelOneMore_53 (by decide) (fun h_53 => absurd h_53 (by decide)) (fun h_53 => ?_)
    refine z_iconst (v := 0) F dX1_feelOneMore_56 (by decide) ?_
    refine z_goto (tgt := 61) F dX1_feelOneMore_57 (by decide) ?_
    refine zp_X5_mind F (by with_reducible assumption) fl_X1_97 dX1_feelOneMore_61 ?_
    refine z_vret F X dX1_feelOneMore_64 ?_
    simp only [hb_18, ho_18, zs_at, va_up_self, zs_off _ n1] at h_40
    simp only [zs_za, za_za, za_at]
    first | rw [feelF, if_pos h_40] | rw [feelF, if_neg (nle h_40)]
theorem c_X1_isGlad {l : Launch} {w : zE} (J : zJ w) {M : zM} {r t : Nat} {x hd c : Int32} (hk : zk r = 1) (ht : zk t = 5) (hh : 0 ≤ M.1 t 0 ∧ M.1 t 0 < 10) (hx : 0 ≤ x ∧ x < 10) : zCi l w yX1_isGlad cX1_isGlad 8 (some .boolean) 1 [.ref (w.2.2 r), .ref (w.2.2 t), .int x, .int hd, .int c] M (fun v M2 => M2 = M ∧ v = bI (gladF (M.1 (r + 1)) c hd (M.1 t) x)) := by
  refine zCi_of J zm_X1_isGlad [some (.ref (w.2.2 r)), some (.ref (w.2.2 t)), some (.int x), some (.int hd), some (.int c), none, none, none] (Nat.le_of_ble_eq_true rfl) rfl (fun g hg F X => ?_)
  subst hg
  refine z_aload_n F dX1_isGlad_0 rfl ?_
  refine zg_X1_things F (by with_reducible assumption) fl_X1_11 dX1_isGlad_1 (fun hk_1 => ?_)
  refine z_aload_n F dX1_isGlad_4 rfl ?_
  refine zg_X5_his F (by with_reducible assumption) fl_X1_69 dX1_isGlad_5 ?_
  refine z_aald16 F (by with_reducible assumption) (vpl 10 (by decide) (by first | with_reducible assumption | grind)) dX1_isGlad_8 (fun hk_8 hb_8 ho_8 => ?_)
  refine z_astore (lv' := [_, _, _, _, _, _, _, _]) F dX1_isGlad_9 (by decide) rfl rfl ?_
  refine z_aload_n F dX1_isGlad_11 rfl ?_
  refine zg_X1_things F (by with_reducible assumption) fl_X1_11 dX1_isGlad_12 (fun hk_12 => ?_)
  refine z_iload_n F dX1_isGlad_15 rfl ?_
  refine z_aald16 F (by with_reducible assumption) (vpl 10 (by decide) (by first | with_reducible assumption | grind)) dX1_isGlad_16 (fun hk_16 hb_16 ho_16 => ?_)
  refine z_astore (lv' := [_, _, _, _, _, _, _, _]) F dX1_isGlad_17 (by decide) rfl rfl ?_
  refine z_aload_n F dX1_isGlad_19 rfl ?_
  refine zg_X5_mind F (by with_reducible assumption) fl_X1_97 dX1_isGlad_20 ?_
  refine z_iconst (v := 1) F dX1_isGlad_23 (by decide) ?_
  refine z_ic_ne (tgt := 32) F dX1_isGlad_24 (by decide) (fun h_24 => ?_) (fun h_24 => ?_)
  · refine z_iconst (v := 1) F dX1_isGlad_32 (by decide) ?_
    refine z_istore (lv' := [_, _, _, _, _, _, _, _]) F dX1_isGlad_33 (by decide) rfl rfl ?_
    refine z_aload F dX1_isGlad_35 rfl ?_
    refine z_aload_n F dX1_isGlad_37 rfl ?_
    refine zg_X5_mind F (by with_reducible assumption) fl_X1_97 dX1_isGlad_38 ?_
    refine z_aload_n F dX1_isGlad_41 rfl ?_
    refine zg_X5_n F (by with_reducible assumption) fl_X1_86 dX1_isGlad_42 ?_
    refine z_callVi F (c_X4_feltBy J (by with_reducible assumption)) zm_X4_feltBy zv_X4_feltBy ml_X1_89 (by with_reducible assumption) (by decide) rfl rfl rfl (Nat.le_of_ble_eq_true rfl) dX1_isGlad_45 (by decide) (fun r_45 M_45 h_45 => ?_)
    obtain ⟨e_45, rfl⟩ := h_45
    replace e_45 := Eq.symm e_45
    subst e_45
    refine z_iload F dX1_isGlad_48 rfl ?_
    refine z_imul F dX1_isGlad_50 ?_
    refine z_aload F dX1_isGlad_51 rfl ?_
    refine z_aload_n F dX1_isGlad_53 rfl ?_
    refine zg_X5_mind F (by with_reducible assumption) fl_X1_97 dX1_isGlad_54 ?_
    refine z_iconst (v := 0) F dX1_isGlad_57 (by decide) ?_
    refine z_callVi F (c_X4_feltBy J (by with_reducible assumption)) zm_X4_feltBy zv_X4_feltBy ml_X1_89 (by with_reducible assumption) (by decide) rfl rfl rfl (Nat.le_of_ble_eq_true rfl) dX1_isGlad_58 (by decide) (fun r_58 M_58 h_58 => ?_)
    obtain ⟨e_58, rfl⟩ := h_58
    replace e_58 := Eq.symm e_58
    subst e_58
    refine z_ic_le (tgt := 83) F dX1_isGlad_61 (by decide) (fun h_61 => ?_) (fun h_61 => ?_)
    · refine z_iconst (v := 0) F dX1_isGlad_83 (by decide) ?_
      refine z_zret F X dX1_isGlad_84 (by decide) ?_
      refine ⟨rfl, ?_⟩
      try simp only [hb_8, ho_8, hb_16, ho_16] at h_61
      try simp only [hb_8, ho_8, hb_16, ho_16] at h_76
      first | simp only [gladF, timesF_1 h_24] | simp only [gladF, timesF_0 h_24]
      first | exact bI_t ⟨h_61, h_76⟩ | exact bI_f (fun q => nlt h_61 q.1) | exact bI_f (fun q => nle h_76 q.2)
    · refine z_aload F dX1_isGlad_64 rfl ?_
      refine zg_X4_worth F (by with_reducible assumption) fl_X1_35 dX1_isGlad_66 ?_
      refine z_aload F dX1_isGlad_69 rfl ?_
      refine zg_X4_worth F (by with_reducible assumption) fl_X1_35 dX1_isGlad_71 ?_
      refine z_isub F dX1_isGlad_74 ?_
      refine z_iload_n F dX1_isGlad_75 rfl ?_
      refine z_ic_gt (tgt := 83) F dX1_isGlad_76 (by decide) (fun h_76 => ?_) (fun h_76 => ?_)
      · refine z_iconst (v := 0) F dX1_isGlad_83 (by decide) ?_
        refine z_zret F X dX1_isGlad_84 (by decide) ?_
        refine ⟨rfl, ?_⟩
        try simp only [hb_8, ho_8, hb_16, ho_16] at h_61
        try simp only [hb_8, ho_8, hb_16, ho_16] at h_76
        first | simp only [gladF, timesF_1 h_24] | simp only [gladF, timesF_0 h_24]
        first | exact bI_t ⟨h_61, h_76⟩ | exact bI_f (fun q => nlt h_61 q.1) | exact bI_f (fun q => nle h_76 q.2)
      · refine z_iconst (v := 1) F dX1_isGlad_79 (by decide) ?_
        refine z_goto (tgt := 84) F dX1_isGlad_80 (by decide) ?_
        refine z_zret F X dX1_isGlad_84 (by decide) ?_
        refine ⟨rfl, ?_⟩
        try simp only [hb_8, ho_8, hb_16, ho_16] at h_61
        try simp only [hb_8, ho_8, hb_16, ho_16] at h_76
        first | simp only [gladF, timesF_1 h_24] | simp only [gladF, timesF_0 h_24]
        first | exact bI_t ⟨h_61, h_76⟩ | exact bI_f (fun q => nlt h_61 q.1) | exact bI_f (fun q => nle h_76 q.2)
  · refine z_iload F dX1_isGlad_27 rfl ?_
    refine z_goto (tgt := 33) F dX1_isGlad_29 (by decide) ?_
    refine z_istore (lv' := [_, _, _, _, _, _, _, _]) F dX1_isGlad_33 (by decide) rfl rfl ?_
    refine z_aload F dX1_isGlad_35 rfl ?_
    refine z_aload_n F dX1_isGlad_37 rfl ?_
    refine zg_X5_mind F (by with_reducible assumption) fl_X1_97 dX1_isGlad_38 ?_
    refine z_aload_n F dX1_isGlad_41 rfl ?_
    refine zg_X5_n F (by with_reducible assumption) fl_X1_86 dX1_isGlad_42 ?_
    refine z_callVi F (c_X4_feltBy J (by with_reducible assumption)) zm_X4_feltBy zv_X4_feltBy ml_X1_89 (by with_reducible assumption) (by decide) rfl rfl rfl (Nat.le_of_ble_eq_true rfl) dX1_isGlad_45 (by decide) (fun r_45 M_45 h_45 => ?_)
    obtain ⟨e_45, rfl⟩ := h_45
    replace e_45 := Eq.symm e_45
    subst e_45
    refine z_iload F dX1_isGlad_48 rfl ?_
    refine z_imul F dX1_isGlad_50 ?_
    refine z_aload F dX1_isGlad_51 rfl ?_
    refine z_aload_n F dX1_isGlad_53 rfl ?_
    refine zg_X5_mind F (by with_reducible assumption) fl_X1_97 dX1_isGlad_54 ?_
    refine z_iconst (v := 0) F dX1_isGlad_57 (by decide) ?_
    refine z_callVi F (c_X4_feltBy J (by with_reducible assumption)) zm_X4_feltBy zv_X4_feltBy ml_X1_89 (by with_reducible assumption) (by decide) rfl rfl rfl (Nat.le_of_ble_eq_true rfl) dX1_isGlad_58 (by decide) (fun r_58 M_58 h_58 => ?_)
    obtain ⟨e_58, rfl⟩ := h_58
    replace e_58 := Eq.symm e_58
    subst e_58
    refine z_ic_le (tgt := 83) F dX1_isGlad_61 (by decide) (fun h_61 => ?_) (fun h_61 => ?_)
    · refine z_iconst (v := 0) F dX1_isGlad_83 (by decide) ?_
      refine z_zret F X dX1_isGlad_84 (by decide) ?_
      refine ⟨rfl, ?_⟩
      try simp only [hb_8, ho_8, hb_16, ho_16] at h_61
      try simp only [hb_8, ho_8, hb_16, ho_16] at h_76
      first | simp only [gladF, timesF_1 h_24] | simp only [gladF, timesF_0 h_24]
      first | exact bI_t ⟨h_61, h_76⟩ | exact bI_f (fun q => nlt h_61 q.1) | exact bI_f (fun q => nle h_76 q.2)
    · refine z_aload F dX1_isGlad_64 rfl ?_
      refine zg_X4_worth F (by with_reducible assumption) fl_X1_35 dX1_isGlad_66 ?_
      refine z_aload F dX1_isGlad_69 rfl ?_
      refine zg_X4_worth F (by with_reducible assumption) fl_X1_35 dX1_isGlad_71 ?_
      refine z_isub F dX1_isGlad_74 ?_
      refine z_iload_n F dX1_isGlad_75 rfl ?_
      refine z_ic_gt (tgt := 83) F dX1_isGlad_76 (by decide) (fun h_76 => ?_) (fun h_76 => ?_)
      · refine z_iconst (v := 0) F dX1_isGlad_83 (by decide) ?_
        refine z_zret F X dX1_isGlad_84 (by decide) ?_
        refine ⟨rfl, ?_⟩
        try simp only [hb_8, ho_8, hb_16, ho_16] at h_61
        try simp only [hb_8, ho_8, hb_16, ho_16] at h_76
        first | simp only [gladF, timesF_1 h_24] | simp only [gladF, timesF_0 h_24]
        first | exact bI_t ⟨h_61, h_76⟩ | exact bI_f (fun q => nlt h_61 q.1) | exact bI_f (fun q => nle h_76 q.2)
      · refine z_iconst (v := 1) F dX1_isGlad_79 (by decide) ?_
        refine z_goto (tgt := 84) F dX1_isGlad_80 (by decide) ?_
        refine z_zret F X dX1_isGlad_84 (by decide) ?_
        refine ⟨rfl, ?_⟩
        try simp only [hb_8, ho_8, hb_16, ho_16] at h_61
        try simp only [hb_8, ho_8, hb_16, ho_16] at h_76
        first | simp only [gladF, timesF_1 h_24] | simp only [gladF, timesF_0 h_24]
        first | exact bI_t ⟨h_61, h_76⟩ | exact bI_f (fun q => nlt h_61 q.1) | exact bI_f (fun q => nle h_76 q.2)

theorem c_X1_offer {l : Launch} {w : zE} (J : zJ w) {M : zM} {r t p : Nat} {c : Int32} (hk : zk r = 1) (ht : zk t = 5) (hh : 0 ≤ M.1 t 0 ∧ M.1 t 0 < 10) (hp : p < 9) (hx : 0 ≤ M.1 t (5 + p) ∧ M.1 t (5 + p) < 10) : zCv l w yX1_offer cX1_offer 6 2 [.ref (w.2.2 r), .ref (w.2.2 t), .int (nI p), .int c] M (fun M2 => M2 = zt M t (offT (M.1 (r + 1)) (M.1 (r + 12) (2 * p + 1)) (M.1 r 2) c (5 + p) (M.1 t)) (offR (M.1 (r + 1)) (M.1 (r + 12) (2 * p + 1)) (M.1 r 2) c (5 + p) (M.1 t) (M.1 (t + 1) 0))) := by
  have e1 := (zkf1 r (zk_i hk (by decide)) hk).1
  have hpin : vp_in (nI p) 9 := vp_in_nI hp (by decide)
  have hpc : (nI p).toNatClampNeg = p := nI_clamp (by omega)
  refine zCv_of J zm_X1_offer [some (.ref (w.2.2 r)), some (.ref (w.2.2 t)), some (.int (nI p)), some (.int c), none, none] (Nat.le_of_ble_eq_true rfl) rfl (fun g hg F X => ?_)
  subst hg
  refine z_aload_n F dX1_offer_0 rfl ?_
  refine zg_X5_theirs F (by with_reducible assumption) fl_X1_60 dX1_offer_1 (fun hk_1 => ?_)
  refine z_iload_n F dX1_offer_4 rfl ?_
  refine z_iald11 F (by with_reducible assumption) hpin dX1_offer_5 ?_
  rw [hpc]
  refine z_istore (lv' := [_, _, _, _, _, _]) F dX1_offer_6 (by decide) rfl rfl ?_
  refine z_aload_n F dX1_offer_8 rfl ?_
  refine z_aload_n F dX1_offer_9 rfl ?_
  refine z_iload F dX1_offer_10 rfl ?_
  refine z_aload_n F dX1_offer_12 rfl ?_
  refine zg_X1_heed F (by with_reducible assumption) fl_X1_24 dX1_offer_13 ?_
  refine z_iload_n F dX1_offer_16 rfl ?_
  refine z_callVi F (c_X1_isGlad J hk ht hh hx) zm_X1_isGlad zv_X1_isGlad ml_X1_100 (by with_reducible assumption) (by decide) rfl rfl rfl (Nat.le_of_ble_eq_true rfl) dX1_offer_17 (by decide) (fun r_17 M_17 h_17 => ?_)
  obtain ⟨e_17, rfl⟩ := h_17
  replace e_17 := Eq.symm e_17
  subst e_17
  refine z_if_ne (tgt := 24) F dX1_offer_20 (by decide) (fun h_20 => ?_) (fun h_20 => ?_)
  · replace h_20 := bI_1.mp h_20
    refine z_aload_n F dX1_offer_24 rfl ?_
    refine zg_X1_things F (by with_reducible assumption) fl_X1_11 dX1_offer_25 (fun hk_25 => ?_)
    refine z_aload_n F dX1_offer_28 rfl ?_
    refine zg_X5_his F (by with_reducible assumption) fl_X1_69 dX1_offer_29 ?_
    refine z_aald16 F (by with_reducible assumption) (vpl 10 (by decide) (by first | with_reducible assumption | grind)) dX1_offer_32 (fun hk_32 hb_32 ho_32 => ?_)
    refine zg_X4_worth F (by with_reducible assumption) fl_X1_35 dX1_offer_33 ?_
    refine z_aload_n F dX1_offer_36 rfl ?_
    refine zg_X1_things F (by with_reducible assumption) fl_X1_11 dX1_offer_37 (fun hk_37 => ?_)
    refine z_iload F dX1_offer_40 rfl ?_
    refine z_aald16 F (by with_reducible assumption) (vpl 10 (by decide) (by first | with_reducible assumption | grind)) dX1_offer_42 (fun hk_42 hb_42 ho_42 => ?_)
    refine zg_X4_worth F (by with_reducible assumption) fl_X1_35 dX1_offer_43 ?_
    refine z_aload_n F dX1_offer_46 rfl ?_
    refine zg_X1_margin F (by with_reducible assumption) fl_X1_21 dX1_offer_47 (fun hk_47 => ?_)
    refine z_iload_n F dX1_offer_50 rfl ?_
    refine z_iald13 F (by with_reducible assumption) hpin dX1_offer_51 ?_
    rw [hpc]
    refine z_iadd F dX1_offer_52 ?_
    refine z_ic_lt (tgt := 60) F dX1_offer_53 (by decide) (fun h_53 => ?_) (fun h_53 => ?_)
    · refine z_iconst (v := 0) F dX1_offer_60 (by decide) ?_
      refine z_istore (lv' := [_, _, _, _, _, _]) F dX1_offer_61 (by decide) rfl rfl ?_
      refine z_iload F dX1_offer_63 rfl ?_
      refine z_if_eq (tgt := 97) F dX1_offer_65 (by decide) (fun h_65 => ?_) (fun h_65 => absurd h_65 (by decide))
      refine z_aload_n F dX1_offer_97 rfl ?_
      refine zg_X5_refused F (by with_reducible assumption) fl_X1_104 dX1_offer_98 ?_
      refine z_bipush (v := (-4)) F dX1_offer_101 (by decide) ?_
      refine z_ic_ne (tgt := 114) F dX1_offer_103 (by decide) (fun h_103 => ?_) (fun h_103 => ?_)
      · refine z_vret F X dX1_offer_114 ?_
        simp only [hb_32, ho_32, hb_42, ho_42] at h_53
        rw [offT, offR, if_pos h_20, if_pos h_20]
        first
          | (rw [if_pos h_53, if_pos h_53, ← zt_self M t]; simp only [zs_zt, zt_t, zt_r, zt_zt, va_up_self, va_up_ne _ _ (show (4 : Nat) ≠ 1 by decide), va_up_ne _ _ (show (4 : Nat) ≠ 0 by decide), va_up_ne _ _ (show (4 : Nat) ≠ 5 + p by omega)]; done)
          | (rw [if_neg (nle h_53), if_neg (nle h_53), if_neg h_103, zt_self]; done)
          | (rw [if_neg (nle h_53), if_neg (nle h_53), if_pos h_103]; conv => lhs; rw [← zt_self M t]
             rw [zs_ztr, zt_t]; done)
      · refine z_aload_n F dX1_offer_106 rfl ?_
        refine z_aload_n F dX1_offer_107 rfl ?_
        refine zg_X5_ahead F (by with_reducible assumption) fl_X1_79 dX1_offer_108 ?_
        refine zp_X5_refused F (by with_reducible assumption) fl_X1_104 dX1_offer_111 ?_
        refine z_vret F X dX1_offer_114 ?_
        simp only [hb_32, ho_32, hb_42, ho_42] at h_53
        rw [offT, offR, if_pos h_20, if_pos h_20]
        first
          | (rw [if_pos h_53, if_pos h_53, ← zt_self M t]; simp only [zs_zt, zt_t, zt_r, zt_zt, va_up_self, va_up_ne _ _ (show (4 : Nat) ≠ 1 by decide), va_up_ne _ _ (show (4 : Nat) ≠ 0 by decide), va_up_ne _ _ (show (4 : Nat) ≠ 5 + p by omega)]; done)
          | (rw [if_neg (nle h_53), if_neg (nle h_53), if_neg h_103, zt_self]; done)
          | (rw [if_neg (nle h_53), if_neg (nle h_53), if_pos h_103]; conv => lhs; rw [← zt_self M t]
             rw [zs_ztr, zt_t]; done)
    · refine z_iconst (v := 1) F dX1_offer_56 (by decide) ?_
      refine z_goto (tgt := 61) F dX1_offer_57 (by decide) ?_
      refine z_istore (lv' := [_, _, _, _, _, _]) F dX1_offer_61 (by decide) rfl rfl ?_
      refine z_iload F dX1_offer_63 rfl ?_
      refine z_if_eq (tgt := 97) F dX1_offer_65 (by decide) (fun h_65 => absurd h_65 (by decide)) (fun h_65 => ?_)
      refine z_aload_n F dX1_offer_68 rfl ?_
      refine zg_X5_theirs F (by with_reducible assumption) fl_X1_60 dX1_offer_69 (fun hk_69 => ?_)
      refine z_iload_n F dX1_offer_72 rfl ?_
      refine z_aload_n F dX1_offer_73 rfl ?_
      refine zg_X5_his F (by with_reducible assumption) fl_X1_69 dX1_offer_74 ?_
      refine z_iast11 F (by with_reducible assumption) hpin dX1_offer_77 ?_
      rw [hpc]
      refine z_aload_n F dX1_offer_78 rfl ?_
      refine z_iload F dX1_offer_79 rfl ?_
      refine z_callVv F (c_X5_hasNew J (by with_reducible assumption)) zm_X5_hasNew zv_X5_hasNew ml_X1_93 (by with_reducible assumption) (by decide) rfl rfl rfl (Nat.le_of_ble_eq_true rfl) dX1_offer_81 (by decide) (fun M_81 h_81 => ?_)
      replace h_81 := Eq.symm h_81
      subst h_81
      refine z_aload_n F dX1_offer_84 rfl ?_
      refine z_dup F dX1_offer_85 rfl ?_
      refine zg_X5_changes F (by with_reducible assumption) fl_X1_72 dX1_offer_86 ?_
      refine z_iconst (v := 1) F dX1_offer_89 (by decide) ?_
      refine z_iadd F dX1_offer_90 ?_
      refine zp_X5_changes F (by with_reducible assumption) fl_X1_72 dX1_offer_91 ?_
      refine z_goto (tgt := 114) F dX1_offer_94 (by decide) ?_
      refine z_vret F X dX1_offer_114 ?_
      simp only [hb_32, ho_32, hb_42, ho_42] at h_53
      rw [offT, offR, if_pos h_20, if_pos h_20]
      first
        | (rw [if_pos h_53, if_pos h_53, ← zt_self M t]; simp only [zs_zt, zt_t, zt_r, zt_zt, va_up_self, va_up_ne _ _ (show (4 : Nat) ≠ 1 by decide), va_up_ne _ _ (show (4 : Nat) ≠ 0 by decide), va_up_ne _ _ (show (4 : Nat) ≠ 5 + p by omega)]; done)
        | (rw [if_neg (nle h_53), if_neg (nle h_53), if_neg h_103, zt_self]; done)
        | (rw [if_neg (nle h_53), if_neg (nle h_53), if_pos h_103]; conv => lhs; rw [← zt_self M t]
           rw [zs_ztr, zt_t]; done)
  · replace h_20 := bI_0.mp h_20
    refine z_vret F X dX1_offer_23 ?_
    rw [offT, offR, if_neg h_20, if_neg h_20, zt_self]
theorem c_X1_pass {l : Launch} {w : zE} (J : zJ w) {M : zM} {r t np : Nat} {c : Int32} (hk : zk r = 1) (ht : zk t = 5) (hn : M.1 r 0 ≤ 10) (hnp : M.1 r 1 = nI np) (hnp9 : np ≤ 9) : zCi l w yX1_pass cX1_pass 5 (some .int) 3 [.ref (w.2.2 r), .ref (w.2.2 t), .int c] M (fun v M2 => M2 = zt M t (passF (M.1 r) (M.1 (r + 1)) (M.1 (r + 12)) np c (M.1 t, M.1 (t + 1) 0)).1 (passF (M.1 r) (M.1 (r + 1)) (M.1 (r + 12)) np c (M.1 t, M.1 (t + 1) 0)).2 ∧ v = (passF (M.1 r) (M.1 (r + 1)) (M.1 (r + 12)) np c (M.1 t, M.1 (t + 1) 0)).1 4 - M.1 t 4) := by
  obtain ⟨e1, e12, e13⟩ := zkf1 r (zk_i hk (by decide)) hk
  have e5 := zkf5 t (zk_i ht (by decide)) ht
  have q0 : ∀ T rf, (zt M t T rf).1 r = M.1 r := fun T rf => zt_off (zk_ne hk ht (by decide)) (zk_ne hk e5 (by decide))
  have q1 : ∀ T rf, (zt M t T rf).1 (r + 1) = M.1 (r + 1) := fun T rf => zt_off (zk_ne e1 ht (by decide)) (zk_ne e1 e5 (by decide))
  have q12 : ∀ T rf, (zt M t T rf).1 (r + 12) = M.1 (r + 12) := fun T rf => zt_off (zk_ne e12 ht (by decide)) (zk_ne e12 e5 (by decide))
  have qt : ∀ T rf, (zt M t T rf).1 t = T := zt_t M t
  have qr : ∀ T rf, (zt M t T rf).1 (t + 1) 0 = rf := fun T rf => by rw [zt_r, va_up_self]
  refine zCi_of J zm_X1_pass [some (.ref (w.2.2 r)), some (.ref (w.2.2 t)), some (.int c), none, none] (Nat.le_of_ble_eq_true rfl) rfl (fun g hg F X => ?_)
  subst hg
  generalize hs1 : (feelsF (M.1 r) (M.1 (r + 1)) c (M.1 t), M.1 (t + 1) 0) = s1 at X
  have key : ∀ (j k : Nat), k + j = np → ZW w g 5 25 [some (.ref (w.2.2 r)), some (.ref (w.2.2 t)), some (.int c), some (.int (M.1 t 4)), some (.int (nI k))] [] (zt M t (peoF (M.1 r) (M.1 (r + 1)) (M.1 (r + 12)) c k s1).1 (peoF (M.1 r) (M.1 (r + 1)) (M.1 (r + 12)) c k s1).2) := by
    intro j
    induction j with
    | zero =>
      intro k hkj
      have hkn : k = np := by omega
      subst hkn
      obtain ⟨s, hs⟩ : ∃ s, s = peoF (M.1 r) (M.1 (r + 1)) (M.1 (r + 12)) c k s1 := ⟨_, rfl⟩
      rw [← hs]
      have hpass : passF (M.1 r) (M.1 (r + 1)) (M.1 (r + 12)) k c (M.1 t, M.1 (t + 1) 0) = (va_up (wellF (M.1 r) (M.1 (r + 1)) s.1) 3 ((wellF (M.1 r) (M.1 (r + 1)) s.1) 3 + 1), s.2) := by
        unfold passF
        simp only [hs1, ← hs]
      refine z_iload F dX1_pass_25 rfl ?_
      refine z_aload_n F dX1_pass_27 rfl ?_
      refine zg_X1_personCount F (by with_reducible assumption) fl_X1_57 dX1_pass_28 ?_
      try simp only [qt, q0, q1, q12]
      refine z_ic_ge (tgt := 87) F dX1_pass_31 (by decide) (fun h_31 => ?_) (fun h_31 => absurd h_31 (Int32.not_lt.mpr (by rw [hnp]; exact nI_le (Nat.le_refl _) (by omega))))
      refine z_aload_n F dX1_pass_87 rfl ?_
      refine zg_X1_well F (by with_reducible assumption) fl_X1_28 dX1_pass_88 ?_
      try simp only [qt, q0, q1, q12]
      refine z_aload_n F dX1_pass_91 rfl ?_
      refine zg_X5_ahead F (by with_reducible assumption) fl_X1_79 dX1_pass_92 ?_
      try simp only [qt, q0, q1, q12]
      refine z_ic_ne (tgt := 137) F dX1_pass_95 (by decide) (fun h_95 => ?_) (fun h_95 => ?_)
      · try simp only [qt, q0, q1, q12] at h_95
        refine z_aload_n F dX1_pass_137 rfl ?_
        refine z_dup F dX1_pass_138 rfl ?_
        refine zg_X5_ahead F (by with_reducible assumption) fl_X1_79 dX1_pass_139 ?_
        try simp only [qt, q0, q1, q12]
        refine z_iconst (v := 1) F dX1_pass_142 (by decide) ?_
        refine z_iadd F dX1_pass_143 ?_
        refine zp_X5_ahead F (by with_reducible assumption) fl_X1_79 dX1_pass_144 ?_
        refine z_aload_n F dX1_pass_147 rfl ?_
        refine zg_X5_changes F (by with_reducible assumption) fl_X1_72 dX1_pass_148 ?_
        try simp only [qt, q0, q1, q12]
        refine z_iload_n F dX1_pass_151 rfl ?_
        refine z_isub F dX1_pass_152 ?_
        refine z_iret F X dX1_pass_153 ?_
        try simp only [hb_117, ho_117, q1] at h_128
        have hw := hpass
        first
          | rw [wellF, if_neg (fun q => h_95 q.1)] at hw
          | rw [wellF, if_neg (fun q => h_106 q.2.1)] at hw
          | rw [wellF, if_neg (fun q => nle h_128 q.2.2)] at hw
          | rw [wellF, if_pos ⟨h_95, h_106, h_128⟩] at hw
        rw [hw]
        simp only [zs_zt, zt_t]
        first | exact ⟨rfl, rfl⟩ | trivial
      · try simp only [qt, q0, q1, q12] at h_95
        refine z_aload_n F dX1_pass_98 rfl ?_
        refine z_aload_n F dX1_pass_99 rfl ?_
        refine zg_X5_his F (by with_reducible assumption) fl_X1_69 dX1_pass_100 ?_
        try simp only [qt, q0, q1, q12]
        refine z_callVi F (c_X1_isThing J (by with_reducible assumption)) zm_X1_isThing zv_X1_isThing ml_X1_65 (by with_reducible assumption) (by decide) rfl rfl rfl (Nat.le_of_ble_eq_true rfl) dX1_pass_103 (by decide) (fun r_103 M_103 h_103 => ?_)
        obtain ⟨e_103, rfl⟩ := h_103
        replace e_103 := Eq.symm e_103
        subst e_103
        refine z_if_eq (tgt := 137) F dX1_pass_106 (by decide) (fun h_106 => ?_) (fun h_106 => ?_)
        · replace h_106 := bI_0.mp h_106
          try simp only [qt, q0, q1, q12] at h_106
          refine z_aload_n F dX1_pass_137 rfl ?_
          refine z_dup F dX1_pass_138 rfl ?_
          refine zg_X5_ahead F (by with_reducible assumption) fl_X1_79 dX1_pass_139 ?_
          try simp only [qt, q0, q1, q12]
          refine z_iconst (v := 1) F dX1_pass_142 (by decide) ?_
          refine z_iadd F dX1_pass_143 ?_
          refine zp_X5_ahead F (by with_reducible assumption) fl_X1_79 dX1_pass_144 ?_
          refine z_aload_n F dX1_pass_147 rfl ?_
          refine zg_X5_changes F (by with_reducible assumption) fl_X1_72 dX1_pass_148 ?_
          try simp only [qt, q0, q1, q12]
          refine z_iload_n F dX1_pass_151 rfl ?_
          refine z_isub F dX1_pass_152 ?_
          refine z_iret F X dX1_pass_153 ?_
          try simp only [hb_117, ho_117, q1] at h_128
          have hw := hpass
          first
            | rw [wellF, if_neg (fun q => h_95 q.1)] at hw
            | rw [wellF, if_neg (fun q => h_106 q.2.1)] at hw
            | rw [wellF, if_neg (fun q => nle h_128 q.2.2)] at hw
            | rw [wellF, if_pos ⟨h_95, h_106, h_128⟩] at hw
          rw [hw]
          simp only [zs_zt, zt_t]
          first | exact ⟨rfl, rfl⟩ | trivial
        · replace h_106 := bI_1.mp h_106
          try simp only [qt, q0, q1, q12] at h_106
          refine z_aload_n F dX1_pass_109 rfl ?_
          refine zg_X1_things F (by with_reducible assumption) fl_X1_11 dX1_pass_110 (fun hk_110 => ?_)
          refine z_aload_n F dX1_pass_113 rfl ?_
          refine zg_X5_his F (by with_reducible assumption) fl_X1_69 dX1_pass_114 ?_
          try simp only [qt, q0, q1, q12]
          refine z_aald16 F (by with_reducible assumption) (vpl 10 (by decide) ⟨h_106.1, Int32.lt_of_lt_of_le h_106.2 hn⟩) dX1_pass_117 (fun hk_117 hb_117 ho_117 => ?_)
          refine z_iconst (v := 0) F dX1_pass_118 (by decide) ?_
          refine z_aload_n F dX1_pass_119 rfl ?_
          refine zg_X5_n F (by with_reducible assumption) fl_X1_86 dX1_pass_120 ?_
          try simp only [qt, q0, q1, q12]
          refine z_callVi F (c_X4_feltBy J (by with_reducible assumption)) zm_X4_feltBy zv_X4_feltBy ml_X1_89 (by with_reducible assumption) (by decide) rfl rfl rfl (Nat.le_of_ble_eq_true rfl) dX1_pass_123 (by decide) (fun r_123 M_123 h_123 => ?_)
          obtain ⟨e_123, rfl⟩ := h_123
          replace e_123 := Eq.symm e_123
          subst e_123
          refine z_bipush (v := 10) F dX1_pass_126 (by decide) ?_
          refine z_ic_lt (tgt := 137) F dX1_pass_128 (by decide) (fun h_128 => ?_) (fun h_128 => ?_)
          · try simp only [qt, q0, q1, q12] at h_128
            refine z_aload_n F dX1_pass_137 rfl ?_
            refine z_dup F dX1_pass_138 rfl ?_
            refine zg_X5_ahead F (by with_reducible assumption) fl_X1_79 dX1_pass_139 ?_
            try simp only [qt, q0, q1, q12]
            refine z_iconst (v := 1) F dX1_pass_142 (by decide) ?_
            refine z_iadd F dX1_pass_143 ?_
            refine zp_X5_ahead F (by with_reducible assumption) fl_X1_79 dX1_pass_144 ?_
            refine z_aload_n F dX1_pass_147 rfl ?_
            refine zg_X5_changes F (by with_reducible assumption) fl_X1_72 dX1_pass_148 ?_
            try simp only [qt, q0, q1, q12]
            refine z_iload_n F dX1_pass_151 rfl ?_
            refine z_isub F dX1_pass_152 ?_
            refine z_iret F X dX1_pass_153 ?_
            try simp only [hb_117, ho_117, q1] at h_128
            have hw := hpass
            first
              | rw [wellF, if_neg (fun q => h_95 q.1)] at hw
              | rw [wellF, if_neg (fun q => h_106 q.2.1)] at hw
              | rw [wellF, if_neg (fun q => nle h_128 q.2.2)] at hw
              | rw [wellF, if_pos ⟨h_95, h_106, h_128⟩] at hw
            rw [hw]
            simp only [zs_zt, zt_t]
            first | exact ⟨rfl, rfl⟩ | trivial
          · try simp only [qt, q0, q1, q12] at h_128
            refine z_aload_n F dX1_pass_131 rfl ?_
            refine z_bipush (v := (-4)) F dX1_pass_132 (by decide) ?_
            refine z_callVv F (c_X5_hasNew J (by with_reducible assumption)) zm_X5_hasNew zv_X5_hasNew ml_X1_93 (by with_reducible assumption) (by decide) rfl rfl rfl (Nat.le_of_ble_eq_true rfl) dX1_pass_134 (by decide) (fun M_134 h_134 => ?_)
            replace h_134 := Eq.symm h_134
            subst h_134
            refine z_aload_n F dX1_pass_137 rfl ?_
            refine z_dup F dX1_pass_138 rfl ?_
            refine zg_X5_ahead F (by with_reducible assumption) fl_X1_79 dX1_pass_139 ?_
            try simp only [qt, q0, q1, q12]
            refine z_iconst (v := 1) F dX1_pass_142 (by decide) ?_
            refine z_iadd F dX1_pass_143 ?_
            refine zp_X5_ahead F (by with_reducible assumption) fl_X1_79 dX1_pass_144 ?_
            refine z_aload_n F dX1_pass_147 rfl ?_
            refine zg_X5_changes F (by with_reducible assumption) fl_X1_72 dX1_pass_148 ?_
            try simp only [qt, q0, q1, q12]
            refine z_iload_n F dX1_pass_151 rfl ?_
            refine z_isub F dX1_pass_152 ?_
            refine z_iret F X dX1_pass_153 ?_
            try simp only [hb_117, ho_117, q1] at h_128
            have hw := hpass
            first
              | rw [wellF, if_neg (fun q => h_95 q.1)] at hw
              | rw [wellF, if_neg (fun q => h_106 q.2.1)] at hw
              | rw [wellF, if_neg (fun q => nle h_128 q.2.2)] at hw
              | rw [wellF, if_pos ⟨h_95, h_106, h_128⟩] at hw
            rw [hw]
            simp only [zs_zt, zt_t]
            first | exact ⟨rfl, rfl⟩ | trivial
    | succ j ih =>
      intro k hkj
      have hpin : vp_in (nI k) 9 := vp_in_nI (by omega) (by decide)
      have hpc : (nI k).toNatClampNeg = k := nI_clamp (by omega)
      have ih2 := ih (k + 1) (by omega)
      rw [← nI_1, peoF] at ih2
      generalize peoF (M.1 r) (M.1 (r + 1)) (M.1 (r + 12)) c k s1 = s at ih2 ⊢
      refine z_iload F dX1_pass_25 rfl ?_
      refine z_aload_n F dX1_pass_27 rfl ?_
      refine zg_X1_personCount F (by with_reducible assumption) fl_X1_57 dX1_pass_28 ?_
      try simp only [qt, q0, q1, q12, hpc]
      refine z_ic_ge (tgt := 87) F dX1_pass_31 (by decide) (fun h_31 => absurd h_31 (Int32.not_le.mpr (by rw [hnp]; exact nI_lt (by omega) (by omega)))) (fun h_31 => ?_)
      refine z_aload_n F dX1_pass_34 rfl ?_
      refine zg_X1_where F (by with_reducible assumption) fl_X1_17 dX1_pass_35 (fun hk_35 => ?_)
      refine z_iload F dX1_pass_38 rfl ?_
      refine z_iald12 F (by with_reducible assumption) hpin dX1_pass_40 ?_
      try simp only [qt, q0, q1, q12, hpc]
      refine z_aload_n F dX1_pass_41 rfl ?_
      refine zg_X5_ahead F (by with_reducible assumption) fl_X1_79 dX1_pass_42 ?_
      try simp only [qt, q0, q1, q12, hpc]
      refine z_ic_ne (tgt := 81) F dX1_pass_45 (by decide) (fun h_45 => ?_) (fun h_45 => ?_)
      · try simp only [qt, q0, q1, q12, hpc] at h_45
        refine z_iincc (c := 1) (lv' := [_, _, _, _, _]) F dX1_pass_81 rfl (by decide) (by decide) rfl rfl ?_
        refine z_goto (tgt := 25) F dX1_pass_84 (by decide) ?_
        first
          | (rw [stepF, if_neg (fun q => h_45 q.1)] at ih2; exact ih2)
          | (rw [stepF, if_neg (fun q => h_56 q.2.1)] at ih2; exact ih2)
          | (rw [stepF, if_neg (fun q => h_70 q.2.2)] at ih2; exact ih2)
          | (rw [stepF, if_pos ⟨h_45, h_56, h_70⟩] at ih2; simp only [qt, q0, q1, q12, qr, zt_zt]; exact ih2)
      · try simp only [qt, q0, q1, q12, hpc] at h_45
        refine z_aload_n F dX1_pass_48 rfl ?_
        refine z_aload_n F dX1_pass_49 rfl ?_
        refine zg_X5_his F (by with_reducible assumption) fl_X1_69 dX1_pass_50 ?_
        try simp only [qt, q0, q1, q12, hpc]
        refine z_callVi F (c_X1_isThing J (by with_reducible assumption)) zm_X1_isThing zv_X1_isThing ml_X1_65 (by with_reducible assumption) (by decide) rfl rfl rfl (Nat.le_of_ble_eq_true rfl) dX1_pass_53 (by decide) (fun r_53 M_53 h_53 => ?_)
        obtain ⟨e_53, rfl⟩ := h_53
        replace e_53 := Eq.symm e_53
        subst e_53
        refine z_if_eq (tgt := 81) F dX1_pass_56 (by decide) (fun h_56 => ?_) (fun h_56 => ?_)
        · replace h_56 := bI_0.mp h_56
          try simp only [qt, q0, q1, q12, hpc] at h_56
          refine z_iincc (c := 1) (lv' := [_, _, _, _, _]) F dX1_pass_81 rfl (by decide) (by decide) rfl rfl ?_
          refine z_goto (tgt := 25) F dX1_pass_84 (by decide) ?_
          first
            | (rw [stepF, if_neg (fun q => h_45 q.1)] at ih2; exact ih2)
            | (rw [stepF, if_neg (fun q => h_56 q.2.1)] at ih2; exact ih2)
            | (rw [stepF, if_neg (fun q => h_70 q.2.2)] at ih2; exact ih2)
            | (rw [stepF, if_pos ⟨h_45, h_56, h_70⟩] at ih2; simp only [qt, q0, q1, q12, qr, zt_zt]; exact ih2)
        · replace h_56 := bI_1.mp h_56
          try simp only [qt, q0, q1, q12, hpc] at h_56
          refine z_aload_n F dX1_pass_59 rfl ?_
          refine z_aload_n F dX1_pass_60 rfl ?_
          refine zg_X5_theirs F (by with_reducible assumption) fl_X1_60 dX1_pass_61 (fun hk_61 => ?_)
          refine z_iload F dX1_pass_64 rfl ?_
          refine z_iald11 F (by with_reducible assumption) hpin dX1_pass_66 ?_
          try simp only [qt, q0, q1, q12, hpc]
          refine z_callVi F (c_X1_isThing J (by with_reducible assumption)) zm_X1_isThing zv_X1_isThing ml_X1_65 (by with_reducible assumption) (by decide) rfl rfl rfl (Nat.le_of_ble_eq_true rfl) dX1_pass_67 (by decide) (fun r_67 M_67 h_67 => ?_)
          obtain ⟨e_67, rfl⟩ := h_67
          replace e_67 := Eq.symm e_67
          subst e_67
          refine z_if_eq (tgt := 81) F dX1_pass_70 (by decide) (fun h_70 => ?_) (fun h_70 => ?_)
          · replace h_70 := bI_0.mp h_70
            try simp only [qt, q0, q1, q12, hpc] at h_70
            refine z_iincc (c := 1) (lv' := [_, _, _, _, _]) F dX1_pass_81 rfl (by decide) (by decide) rfl rfl ?_
            refine z_goto (tgt := 25) F dX1_pass_84 (by decide) ?_
            first
              | (rw [stepF, if_neg (fun q => h_45 q.1)] at ih2; exact ih2)
              | (rw [stepF, if_neg (fun q => h_56 q.2.1)] at ih2; exact ih2)
              | (rw [stepF, if_neg (fun q => h_70 q.2.2)] at ih2; exact ih2)
              | (rw [stepF, if_pos ⟨h_45, h_56, h_70⟩] at ih2; simp only [qt, q0, q1, q12, qr, zt_zt]; exact ih2)
          · replace h_70 := bI_1.mp h_70
            try simp only [qt, q0, q1, q12, hpc] at h_70
            refine z_aload_n F dX1_pass_73 rfl ?_
            refine z_aload_n F dX1_pass_74 rfl ?_
            refine z_iload F dX1_pass_75 rfl ?_
            refine z_iload_n F dX1_pass_77 rfl ?_
            refine z_callVv F (c_X1_offer J hk ht (by rw [qt]; exact ⟨h_56.1, Int32.lt_of_lt_of_le h_56.2 hn⟩) (show k < 9 by omega) (by rw [qt]; exact ⟨h_70.1, Int32.lt_of_lt_of_le h_70.2 hn⟩)) zm_X1_offer zv_X1_offer ml_X1_82 (by with_reducible assumption) (by decide) rfl rfl rfl (Nat.le_of_ble_eq_true rfl) dX1_pass_78 (by decide) (fun M_78 h_78 => ?_)
            replace h_78 := Eq.symm h_78
            subst h_78
            refine z_iincc (c := 1) (lv' := [_, _, _, _, _]) F dX1_pass_81 rfl (by decide) (by decide) rfl rfl ?_
            refine z_goto (tgt := 25) F dX1_pass_84 (by decide) ?_
            first
              | (rw [stepF, if_neg (fun q => h_45 q.1)] at ih2; exact ih2)
              | (rw [stepF, if_neg (fun q => h_56 q.2.1)] at ih2; exact ih2)
              | (rw [stepF, if_neg (fun q => h_70 q.2.2)] at ih2; exact ih2)
              | (rw [stepF, if_pos ⟨h_45, h_56, h_70⟩] at ih2; simp only [qt, q0, q1, q12, qr, zt_zt]; exact ih2)
  have k0 := key np 0 (by omega)
  refine z_aload_n F dX1_pass_0 rfl ?_
  refine zg_X5_changes F (by with_reducible assumption) fl_X1_72 dX1_pass_1 ?_
  refine z_istore_n (lv' := [_, _, _, _, _]) F dX1_pass_4 (by decide) rfl rfl ?_
  refine z_aload_n F dX1_pass_5 rfl ?_
  refine z_aload_n F dX1_pass_6 rfl ?_
  refine zg_X5_his F (by with_reducible assumption) fl_X1_69 dX1_pass_7 ?_
  refine z_callVi F (c_X1_isThing J (by with_reducible assumption)) zm_X1_isThing zv_X1_isThing ml_X1_65 (by with_reducible assumption) (by decide) rfl rfl rfl (Nat.le_of_ble_eq_true rfl) dX1_pass_10 (by decide) (fun r_10 M_10 h_10 => ?_)
  obtain ⟨e_10, rfl⟩ := h_10
  replace e_10 := Eq.symm e_10
  subst e_10
  refine z_if_eq (tgt := 22) F dX1_pass_13 (by decide) (fun h_13 => ?_) (fun h_13 => ?_)
  · replace h_13 := bI_0.mp h_13
    refine z_iconst (v := 0) F dX1_pass_22 (by decide) ?_
    refine z_istore (lv' := [_, _, _, _, _]) F dX1_pass_23 (by decide) rfl rfl ?_
    first
      | (rw [feelsF, if_pos h_13] at hs1; subst hs1; rw [za_zt]; exact k0)
      | (rw [feelsF, if_neg h_13] at hs1; subst hs1; rw [peoF, zt_self] at k0; exact k0)
  · replace h_13 := bI_1.mp h_13
    refine z_aload_n F dX1_pass_16 rfl ?_
    refine z_aload_n F dX1_pass_17 rfl ?_
    refine z_iload_n F dX1_pass_18 rfl ?_
    refine z_callVv F (c_X1_feelOneMore J (by with_reducible assumption) (by with_reducible assumption) ⟨h_13.1, Int32.lt_of_lt_of_le h_13.2 hn⟩) zm_X1_feelOneMore zv_X1_feelOneMore ml_X1_75 (by with_reducible assumption) (by decide) rfl rfl rfl (Nat.le_of_ble_eq_true rfl) dX1_pass_19 (by decide) (fun M_19 h_19 => ?_)
    replace h_19 := Eq.symm h_19
    subst h_19
    refine z_iconst (v := 0) F dX1_pass_22 (by decide) ?_
    refine z_istore (lv' := [_, _, _, _, _]) F dX1_pass_23 (by decide) rfl rfl ?_
    first
      | (rw [feelsF, if_pos h_13] at hs1; subst hs1; rw [za_zt]; exact k0)
      | (rw [feelsF, if_neg h_13] at hs1; subst hs1; rw [peoF, zt_self] at k0; exact k0)
end
section
theorem ac_X1_51 : Cond.methodLink RX1 51 arraycopyName ∈ zTb := zTb_in (List.mem_of_getElem? (i := 409) (by decide +kernel)) (by decide +kernel)
theorem ac_X5_34 : Cond.methodLink RX5 34 arraycopyName ∈ zTb := zTb_in (List.mem_of_getElem? (i := 416) (by decide +kernel)) (by decide +kernel)
theorem ac_X7_265 : Cond.methodLink RX7 265 arraycopyName ∈ zTb := zTb_in (List.mem_of_getElem? (i := 776) (by decide +kernel)) (by decide +kernel)
theorem ac_st : Cond.static arraycopyName ∈ zTb := zTb_in (List.mem_of_getElem? (i := 410) (by decide +kernel)) (by decide +kernel)
theorem ac_na : Cond.native arraycopyName ∈ zTb := zTb_in (List.mem_of_getElem? (i := 411) (by decide +kernel)) (by decide +kernel)
theorem ac_in : Cond.initialized "java/lang/System" ∈ zTb := by decide +kernel
theorem mi_X3_109 : Cond.methodLink RX3 109 Lib.Math.min.name ∈ zTb := zTb_in (List.mem_of_getElem? (i := 528) (by decide +kernel)) (by decide +kernel)
theorem mi_st : Cond.static Lib.Math.min.name ∈ zTb := zTb_in (List.mem_of_getElem? (i := 467) (by decide +kernel)) (by decide +kernel)
theorem mi_in : Cond.initialized "java/lang/Math" ∈ zTb := by decide +kernel
theorem mi_co : Cond.code Lib.Math.min.name Lib.Math.min.code 2 (some .int) ∈ zTb := by decide +kernel
/-- the first n ints of g over f -/
def cpF (n : Nat) (f g : zF1) : zF1 := fun o => if o < n then g o else f o
section ZK
variable {w : zE} {g : zG} {own : String} {cc : ByteArray} {nL D pc : Nat} {lv : List (Option Value)} {M : zM}
theorem z_copyG {i j idx n0 n1 : Nat} {f h : zF1} {M' : zM} {sp dp n : Int32} (F : zF w g own cc nL D) (hi : i < 154) (hj : j < 154) (hei : zc w M i = .inl (w.2.1 1, n0, .inl f)) (hej : zc w M j = .inl (w.2.1 1, n1, .inl h)) (h1 : ¬ sp < 0) (h2 : ¬ dp < 0) (h3 : ¬ n < 0) (h4 : sp.toNatClampNeg + n.toNatClampNeg ≤ n0) (h5 : dp.toNatClampNeg + n.toNatClampNeg ≤ n1) (hs : zc w M' j = .inl (w.2.1 1, n1, .inl (va_cpy f h sp.toNatClampNeg dp.toNatClampNeg n.toNatClampNeg))) (ho : ∀ q, q < 154 → q ≠ j → zc w M' q = zc w M q) (hl : Cond.methodLink own idx arraycopyName ∈ zTb) (hd : decode cc pc = .ok (.invokestatic idx, 3)) (hD : 1 ≤ D) (k : ZW w g nL (pc + 3) lv [] M') : ZW w g nL pc lv [.int n, .int dp, .ref (w.2.2 j), .int sp, .ref (w.2.2 i)] M := fun H locs ls hl1 hP hS => by
  have f1 := F.2.2.2.2.2.2.2.2.2.1
  have f2 := F.2.2.2.2.2.2.2.2.2.2.1
  refine va_copyi F.1 F.2.1 (by rw [F.2.2.1]; exact hl1.1.symm) F.2.2.2.1 (F.2.2.2.2.1 _ hl) (F.2.2.2.2.1 _ ac_na) (F.2.2.2.2.1 _ ac_st) (F.2.2.2.2.1 _ ac_in) F.2.2.2.2.2.2.1 hP.P (zP.D F.2.2.2.2.2.2.2.1 F.2.2.2.2.2.2.2.2.1) hS i j 1 1 (by rw [zL0_at hi, hei]) (by rw [zL0_at hj, hej]) rfl rfl rfl h1 h2 h3 h4 h5 (fun _ _ => rfl) (by omega) (show 0 + (5 + 2 + 11) ≤ _ by omega) hd (fun H1 locs1 hP1 _ hS1 => k H1 locs1 ls hl1 (zP.put hj hP1 hs ho) hS1)
theorem z_copy11 {i j idx : Nat} (F : zF w g own cc nL D) (hi : zk (i + 1) = 11) (hj : zk (j + 1) = 11) (hl : Cond.methodLink own idx arraycopyName ∈ zTb) (hd : decode cc pc = .ok (.invokestatic idx, 3)) (hD : 1 ≤ D) (k : ZW w g nL (pc + 3) lv [] (za M j (fun o => if 5 ≤ o ∧ o < 14 then M.1 i o else M.1 j o))) : ZW w g nL pc lv [.int 9, .int 0, .ref (w.2.2 (j + 1)), .int 0, .ref (w.2.2 (i + 1))] M := by
  have l1 := zk_i hi (by decide)
  have l2 := zk_i hj (by decide)
  refine z_copyG F l1 l2 (zc_eq hi) (zc_eq hj) (by decide) (by decide) (by decide) (by decide) (by decide) ?_ (za_other l2 (fun o hne => ?_)) hl hd hD k
  · rw [zc_eq hj]
    refine congrArg Sum.inl (congrArg (Prod.mk _) (congrArg (Prod.mk _) (congrArg Sum.inl (funext fun q => ?_))))
    show va_up M.1 j _ (j + 1 - 1) (5 + q) = _
    rw [Nat.add_sub_cancel, va_up_self]
    show (if 5 ≤ 5 + q ∧ 5 + q < 14 then M.1 i (5 + q) else M.1 j (5 + q)) = if 0 ≤ q ∧ q < 0 + 9 then M.1 (i + 1 - 1) (5 + (0 + (q - 0))) else M.1 (j + 1 - 1) (5 + q)
    by_cases h : q < 9
    · rw [if_pos (by omega), if_pos (by omega)]
      simp
    · rw [if_neg (by omega), if_neg (by omega)]
      rfl
  · rw [hj]
    refine ⟨by omega, ?_⟩
    by_cases h : 5 ≤ o
    · exact h
    · exact absurd (if_neg (by omega)) hne
theorem z_copy12 {i j idx : Nat} (F : zF w g own cc nL D) (hi : zk i = 12) (hj : zk j = 12) (hl : Cond.methodLink own idx arraycopyName ∈ zTb) (hd : decode cc pc = .ok (.invokestatic idx, 3)) (hD : 1 ≤ D) (k : ZW w g nL (pc + 3) lv [] (za M j (fun o => if o % 2 = 0 ∧ o < 18 then M.1 i o else M.1 j o))) : ZW w g nL pc lv [.int 9, .int 0, .ref (w.2.2 j), .int 0, .ref (w.2.2 i)] M := by
  have l1 := zk_i hi (by decide)
  have l2 := zk_i hj (by decide)
  refine z_copyG F l1 l2 (zc_eq hi) (zc_eq hj) (by decide) (by decide) (by decide) (by decide) (by decide) ?_ (za_other l2 (fun o hne => ?_)) hl hd hD k
  · rw [zc_eq hj]
    refine congrArg Sum.inl (congrArg (Prod.mk _) (congrArg (Prod.mk _) (congrArg Sum.inl (funext fun q => ?_))))
    show va_up M.1 j _ j (2 * q) = _
    rw [va_up_self]
    show (if 2 * q % 2 = 0 ∧ 2 * q < 18 then M.1 i (2 * q) else M.1 j (2 * q)) = if 0 ≤ q ∧ q < 0 + 9 then M.1 i (2 * (0 + (q - 0))) else M.1 j (2 * q)
    by_cases h : q < 9
    · rw [if_pos (by omega), if_pos (by omega)]
      simp
    · rw [if_neg (by omega), if_neg (by omega)]
  · rw [hj]
    refine ⟨rfl, ?_⟩
    by_cases h : o % 2 = 0
    · exact h
    · exact absurd (if_neg (by omega)) hne
theorem z_copy13 {i j idx : Nat} (F : zF w g own cc nL D) (hi : zk (i + 1) = 13) (hj : zk (j + 1) = 13) (hl : Cond.methodLink own idx arraycopyName ∈ zTb) (hd : decode cc pc = .ok (.invokestatic idx, 3)) (hD : 1 ≤ D) (k : ZW w g nL (pc + 3) lv [] (za M j (fun o => if o % 2 = 1 ∧ o < 18 then M.1 i o else M.1 j o))) : ZW w g nL pc lv [.int 9, .int 0, .ref (w.2.2 (j + 1)), .int 0, .ref (w.2.2 (i + 1))] M := by
  have l1 := zk_i hi (by decide)
  have l2 := zk_i hj (by decide)
  refine z_copyG F l1 l2 (zc_eq hi) (zc_eq hj) (by decide) (by decide) (by decide) (by decide) (by decide) ?_ (za_other l2 (fun o hne => ?_)) hl hd hD k
  · rw [zc_eq hj]
    refine congrArg Sum.inl (congrArg (Prod.mk _) (congrArg (Prod.mk _) (congrArg Sum.inl (funext fun q => ?_))))
    show va_up M.1 j _ (j + 1 - 1) (2 * q + 1) = _
    rw [Nat.add_sub_cancel, va_up_self]
    show (if (2 * q + 1) % 2 = 1 ∧ 2 * q + 1 < 18 then M.1 i (2 * q + 1) else M.1 j (2 * q + 1)) = if 0 ≤ q ∧ q < 0 + 9 then M.1 (i + 1 - 1) (2 * (0 + (q - 0)) + 1) else M.1 (j + 1 - 1) (2 * q + 1)
    by_cases h : q < 9
    · rw [if_pos (by omega), if_pos (by omega)]
      simp
    · rw [if_neg (by omega), if_neg (by omega)]
      rfl
  · rw [hj]
    refine ⟨by omega, ?_⟩
    by_cases h : o % 2 = 1
    · exact h
    · exact absurd (if_neg (by omega)) hne
theorem z_min {x y : Int32} {idx : Nat} {st : List Value} (F : zF w g own cc nL D) (hl : Cond.methodLink own idx Lib.Math.min.name ∈ zTb) (hst : (st.map fun v => v.category).sum ≤ 8) (hd : decode cc pc = .ok (.invokestatic idx, 3)) (hD : 1 ≤ D) (k : ZW w g nL (pc + 3) lv (.int (if y < x then y else x) :: st) M) : ZW w g nL pc lv (.int y :: .int x :: st) M := fun H locs ls hl1 hP hS => by
  have f1 := F.2.2.2.2.2.2.2.2.2.1
  have f2 := F.2.2.2.2.2.2.2.2.2.2.1
  exact va_mmin F.1 F.2.1 (by rw [F.2.2.1]; exact hl1.1.symm) F.2.2.2.1 (F.2.2.2.2.1 _ hl) (F.2.2.2.2.1 _ mi_st) (F.2.2.2.2.1 _ mi_in) (F.2.2.2.2.1 _ mi_co) (by omega) (by omega) F.2.2.2.2.2.2.2.2.2.2.2.1 F.2.2.2.2.2.2.2.2.2.2.2.2.1 hd (k H locs ls hl1 hP hS)
end ZK
end
section
def whoL (T : zF1) (x : Int32) : Nat → Nat → Int32
  | 0, _ => -4
  | j + 1, k => if T (5 + k) = x then nI k else whoL T x j (k + 1)
/-- who has it: he (8), the first of the people that has it, nobody -/
def whoF (T : zF1) (np : Nat) (x : Int32) : Int32 := if T 0 = x then 8 else whoL T x np 0
def peoB (pe : zF1) (m : Int32) : Nat → Nat → Int32
  | 0, _ => 0
  | j + 1, k => if pe (2 * k) = m then 1 else peoB pe m j (k + 1)
theorem c_X1_whoHas {l : Launch} {w : zE} (J : zJ w) {M : zM} {r t np : Nat} {x : Int32} (hk : zk r = 1) (ht : zk t = 5) (hnp : M.1 r 1 = nI np) (hnp9 : np ≤ 9) : zCi l w yX1_whoHas cX1_whoHas 4 (some .int) 0 [.ref (w.2.2 r), .int x, .ref (w.2.2 t)] M (fun v M2 => M2 = M ∧ v = whoF (M.1 t) np x) := by
  refine zCi_of J zm_X1_whoHas [some (.ref (w.2.2 r)), some (.int x), some (.ref (w.2.2 t)), none] (Nat.le_of_ble_eq_true rfl) rfl (fun g hg F X => ?_)
  subst hg
  have key : ∀ (j k : Nat), k + j = np → whoF (M.1 t) np x = whoL (M.1 t) x j k → ZW w g 4 13 [some (.ref (w.2.2 r)), some (.int x), some (.ref (w.2.2 t)), some (.int (nI k))] [] M := by
    intro j
    induction j with
    | zero =>
      intro k hkj hw
      refine z_iload_n F dX1_whoHas_13 rfl ?_
      refine z_aload_n F dX1_whoHas_14 rfl ?_
      refine zg_X1_personCount F (by with_reducible assumption) fl_X1_57 dX1_whoHas_15 ?_
      refine z_ic_ge (tgt := 39) F dX1_whoHas_18 (by decide) (fun h_18 => ?_) (fun h_18 => absurd h_18 (Int32.not_lt.mpr (by rw [hnp]; exact nI_le (by omega) (by omega))))
      refine z_bipush (v := (-4)) F dX1_whoHas_39 (by decide) ?_
      refine z_iret F X dX1_whoHas_41 ?_
      exact ⟨rfl, by rw [hw]; rfl⟩
    | succ j ih =>
      intro k hkj hw
      have hpin : vp_in (nI k) 9 := vp_in_nI (by omega) (by decide)
      have hpc : (nI k).toNatClampNeg = k := nI_clamp (by omega)
      refine z_iload_n F dX1_whoHas_13 rfl ?_
      refine z_aload_n F dX1_whoHas_14 rfl ?_
      refine zg_X1_personCount F (by with_reducible assumption) fl_X1_57 dX1_whoHas_15 ?_
      try simp only [hpc]
      refine z_ic_ge (tgt := 39) F dX1_whoHas_18 (by decide) (fun h_18 => absurd h_18 (Int32.not_le.mpr (by rw [hnp]; exact nI_lt (by omega) (by omega)))) (fun h_18 => ?_)
      refine z_aload_n F dX1_whoHas_21 rfl ?_
      refine zg_X5_theirs F (by with_reducible assumption) fl_X1_60 dX1_whoHas_22 (fun hk_22 => ?_)
      refine z_iload_n F dX1_whoHas_25 rfl ?_
      refine z_iald11 F (by with_reducible assumption) hpin dX1_whoHas_26 ?_
      try simp only [hpc]
      refine z_iload_n F dX1_whoHas_27 rfl ?_
      refine z_ic_ne (tgt := 33) F dX1_whoHas_28 (by decide) (fun h_28 => ?_) (fun h_28 => ?_)
      · try simp only [hpc] at h_28
        refine z_iincc (c := 1) (lv' := [_, _, _, _]) F dX1_whoHas_33 rfl (by decide) (by decide) rfl rfl ?_
        refine z_goto (tgt := 13) F dX1_whoHas_36 (by decide) ?_
        rw [nI_1]
        exact ih (k + 1) (by omega) (by rw [hw, whoL, if_neg h_28])
      · try simp only [hpc] at h_28
        refine z_iload_n F dX1_whoHas_31 rfl ?_
        refine z_iret F X dX1_whoHas_32 ?_
        exact ⟨rfl, by rw [hw, whoL, if_pos h_28]⟩
  refine z_aload_n F dX1_whoHas_0 rfl ?_
  refine zg_X5_his F (by with_reducible assumption) fl_X1_69 dX1_whoHas_1 ?_
  refine z_iload_n F dX1_whoHas_4 rfl ?_
  refine z_ic_ne (tgt := 11) F dX1_whoHas_5 (by decide) (fun h_5 => ?_) (fun h_5 => ?_)
  · refine z_iconst (v := 0) F dX1_whoHas_11 (by decide) ?_
    refine z_istore_n (lv' := [_, _, _, _]) F dX1_whoHas_12 (by decide) rfl rfl ?_
    exact key np 0 (by omega) (by rw [whoF, if_neg h_5])
  · refine z_bipush (v := 8) F dX1_whoHas_8 (by decide) ?_
    refine z_iret F X dX1_whoHas_10 ?_
    exact ⟨rfl, by rw [whoF, if_pos h_5]⟩
theorem c_X1_isPeopled {l : Launch} {w : zE} (J : zJ w) {M : zM} {r np : Nat} {x : Int32} (hk : zk r = 1) (hnp : M.1 r 1 = nI np) (hnp9 : np ≤ 9) : zCi l w yX1_isPeopled cX1_isPeopled 3 (some .boolean) 0 [.ref (w.2.2 r), .int x] M (fun v M2 => M2 = M ∧ v = peoB (M.1 (r + 12)) x np 0) := by
  refine zCi_of J zm_X1_isPeopled [some (.ref (w.2.2 r)), some (.int x), none] (Nat.le_of_ble_eq_true rfl) rfl (fun g hg F X => ?_)
  subst hg
  have key : ∀ (j k : Nat), k + j = np → peoB (M.1 (r + 12)) x np 0 = peoB (M.1 (r + 12)) x j k → ZW w g 3 2 [some (.ref (w.2.2 r)), some (.int x), some (.int (nI k))] [] M := by
    intro j
    induction j with
    | zero =>
      intro k hkj hw
      refine z_iload_n F dX1_isPeopled_2 rfl ?_
      refine z_aload_n F dX1_isPeopled_3 rfl ?_
      refine zg_X1_personCount F (by with_reducible assumption) fl_X1_57 dX1_isPeopled_4 ?_
      refine z_ic_ge (tgt := 28) F dX1_isPeopled_7 (by decide) (fun h_7 => ?_) (fun h_7 => absurd h_7 (Int32.not_lt.mpr (by rw [hnp]; exact nI_le (by omega) (by omega))))
      refine z_iconst (v := 0) F dX1_isPeopled_28 (by decide) ?_
      refine z_zret F X dX1_isPeopled_29 (by decide) ?_
      exact ⟨rfl, by rw [hw]; rfl⟩
    | succ j ih =>
      intro k hkj hw
      have hpin : vp_in (nI k) 9 := vp_in_nI (by omega) (by decide)
      have hpc : (nI k).toNatClampNeg = k := nI_clamp (by omega)
      refine z_iload_n F dX1_isPeopled_2 rfl ?_
      refine z_aload_n F dX1_isPeopled_3 rfl ?_
      refine zg_X1_personCount F (by with_reducible assumption) fl_X1_57 dX1_isPeopled_4 ?_
      try simp only [hpc]
      refine z_ic_ge (tgt := 28) F dX1_isPeopled_7 (by decide) (fun h_7 => absurd h_7 (Int32.not_le.mpr (by rw [hnp]; exact nI_lt (by omega) (by omega)))) (fun h_7 => ?_)
      refine z_aload_n F dX1_isPeopled_10 rfl ?_
      refine zg_X1_where F (by with_reducible assumption) fl_X1_17 dX1_isPeopled_11 (fun hk_11 => ?_)
      refine z_iload_n F dX1_isPeopled_14 rfl ?_
      refine z_iald12 F (by with_reducible assumption) hpin dX1_isPeopled_15 ?_
      try simp only [hpc]
      refine z_iload_n F dX1_isPeopled_16 rfl ?_
      refine z_ic_ne (tgt := 22) F dX1_isPeopled_17 (by decide) (fun h_17 => ?_) (fun h_17 => ?_)
      · try simp only [hpc] at h_17
        refine z_iincc (c := 1) (lv' := [_, _, _]) F dX1_isPeopled_22 rfl (by decide) (by decide) rfl rfl ?_
        refine z_goto (tgt := 2) F dX1_isPeopled_25 (by decide) ?_
        rw [nI_1]
        exact ih (k + 1) (by omega) (by rw [hw, peoB, if_neg h_17])
      · try simp only [hpc] at h_17
        refine z_iconst (v := 1) F dX1_isPeopled_20 (by decide) ?_
        refine z_zret F X dX1_isPeopled_21 (by decide) ?_
        exact ⟨rfl, by rw [hw, peoB, if_pos h_17]⟩
  refine z_iconst (v := 0) F dX1_isPeopled_0 (by decide) ?_
  refine z_istore_n (lv' := [_, _, _]) F dX1_isPeopled_1 (by decide) rfl rfl ?_
  exact key np 0 (by omega) rfl
theorem c_X1_addThing {l : Launch} {w : zE} (J : zJ w) {M : zM} {r n : Nat} {a b c d : Int32} (hk : zk r = 1) (hn : M.1 r 0 = nI n) (h10 : n < 10) : zCi l w yX1_addThing cX1_addThing 5 (some .int) 1 [.ref (w.2.2 r), .int a, .int b, .int c, .int d] M (fun v M2 => M2 = zs (za M (r + 1) (setF (M.1 (r + 1)) n a b c d)) r 0 (nI (n + 1)) ∧ v = nI n) := by
  have n1 : r ≠ r + 1 := by omega
  have hpin : vp_in (nI n) 10 := vp_in_nI h10 (by decide)
  have hpc : (nI n).toNatClampNeg = n := nI_clamp (by omega)
  refine zCi_of J zm_X1_addThing [some (.ref (w.2.2 r)), some (.int a), some (.int b), some (.int c), some (.int d)] (Nat.le_of_ble_eq_true rfl) rfl (fun g hg F X => ?_)
  subst hg
  refine z_aload_n F dX1_addThing_0 rfl ?_
  refine zg_X1_thingCount F (by with_reducible assumption) fl_X1_48 dX1_addThing_1 ?_
  try simp only [za_off _ n1, zs_at, va_up_self, hn, nI_1]
  refine z_aload_n F dX1_addThing_4 rfl ?_
  refine zg_X1_things F (by with_reducible assumption) fl_X1_11 dX1_addThing_5 (fun hk_5 => ?_)
  refine z_alen16 F (by with_reducible assumption) dX1_addThing_8 ?_
  refine z_ic_lt (tgt := 15) F dX1_addThing_9 (by decide) (fun h_9 => ?_) (fun h_9 => absurd h_9 (Int32.not_le.mpr (nI_lt (b := 10) h10 (by decide))))
  refine z_aload_n F dX1_addThing_15 rfl ?_
  refine zg_X1_things F (by with_reducible assumption) fl_X1_11 dX1_addThing_16 (fun hk_16 => ?_)
  refine z_aload_n F dX1_addThing_19 rfl ?_
  refine zg_X1_thingCount F (by with_reducible assumption) fl_X1_48 dX1_addThing_20 ?_
  try simp only [za_off _ n1, zs_at, va_up_self, hn, nI_1]
  refine z_aald16 F (by with_reducible assumption) hpin dX1_addThing_23 (fun hk_23 hb_23 ho_23 => ?_)
  refine z_iload_n F dX1_addThing_24 rfl ?_
  refine z_iload_n F dX1_addThing_25 rfl ?_
  refine z_iload_n F dX1_addThing_26 rfl ?_
  refine z_iload F dX1_addThing_27 rfl ?_
  refine z_callVv F (c_X4_set J (by with_reducible assumption)) zm_X4_set zv_X4_set ml_X1_44 (by with_reducible assumption) (by decide) rfl rfl rfl (Nat.le_of_ble_eq_true rfl) dX1_addThing_29 (by decide) (fun M_29 h_29 => ?_)
  replace h_29 := Eq.symm h_29
  subst h_29
  refine z_aload_n F dX1_addThing_32 rfl ?_
  refine z_dup F dX1_addThing_33 rfl ?_
  refine zg_X1_thingCount F (by with_reducible assumption) fl_X1_48 dX1_addThing_34 ?_
  try simp only [za_off _ n1, zs_at, va_up_self, hn, nI_1]
  refine z_iconst (v := 1) F dX1_addThing_37 (by decide) ?_
  refine z_iadd F dX1_addThing_38 ?_
  refine zp_X1_thingCount F (by with_reducible assumption) fl_X1_48 dX1_addThing_39 ?_
  refine z_aload_n F dX1_addThing_42 rfl ?_
  refine zg_X1_thingCount F (by with_reducible assumption) fl_X1_48 dX1_addThing_43 ?_
  try simp only [za_off _ n1, zs_at, va_up_self, hn, nI_1]
  refine z_iconst (v := 1) F dX1_addThing_46 (by decide) ?_
  refine z_isub F dX1_addThing_47 ?_
  refine z_iret F X dX1_addThing_48 ?_
  simp only [hpc] at hb_23 ho_23
  simp only [hpc, hb_23, ho_23, za_off _ n1, hn, nI_1, nI_pred]
  constructor <;> first | rfl | trivial
theorem c_X1_addPerson {l : Launch} {w : zE} (J : zJ w) {M : zM} {r t n : Nat} {a b x : Int32} (hk : zk r = 1) (ht : zk t = 5) (hn : M.1 r 1 = nI n) (h9 : n < 9) : zCi l w yX1_addPerson cX1_addPerson 5 (some .int) 0 [.ref (w.2.2 r), .int a, .int b, .int x, .ref (w.2.2 t)] M (fun v M2 => M2 = zs (zs (zs (zs M (r + 12) (2 * n) a) (r + 12) (2 * n + 1) b) t (5 + n) x) r 1 (nI (n + 1)) ∧ v = nI n) := by
  obtain ⟨e1, e12, e13⟩ := zkf1 r (zk_i hk (by decide)) hk
  have n1 : r ≠ r + 12 := by omega
  have n2 : r ≠ t := zk_ne hk ht (by decide)
  have hpin : vp_in (nI n) 9 := vp_in_nI h9 (by decide)
  have hpc : (nI n).toNatClampNeg = n := nI_clamp (by omega)
  refine zCi_of J zm_X1_addPerson [some (.ref (w.2.2 r)), some (.int a), some (.int b), some (.int x), some (.ref (w.2.2 t))] (Nat.le_of_ble_eq_true rfl) rfl (fun g hg F X => ?_)
  subst hg
  refine z_aload_n F dX1_addPerson_0 rfl ?_
  refine zg_X1_personCount F (by with_reducible assumption) fl_X1_57 dX1_addPerson_1 ?_
  try simp only [zs_off _ n1, zs_off _ n2, zs_at, va_up_self, hn, nI_1, hpc]
  refine z_aload_n F dX1_addPerson_4 rfl ?_
  refine zg_X1_where F (by with_reducible assumption) fl_X1_17 dX1_addPerson_5 (fun hk_5 => ?_)
  refine z_alen12 F (by with_reducible assumption) dX1_addPerson_8 ?_
  refine z_ic_lt (tgt := 15) F dX1_addPerson_9 (by decide) (fun h_9 => ?_) (fun h_9 => absurd h_9 (Int32.not_le.mpr (nI_lt (b := 9) h9 (by decide))))
  refine z_aload_n F dX1_addPerson_15 rfl ?_
  refine zg_X1_where F (by with_reducible assumption) fl_X1_17 dX1_addPerson_16 (fun hk_16 => ?_)
  refine z_aload_n F dX1_addPerson_19 rfl ?_
  refine zg_X1_personCount F (by with_reducible assumption) fl_X1_57 dX1_addPerson_20 ?_
  try simp only [zs_off _ n1, zs_off _ n2, zs_at, va_up_self, hn, nI_1, hpc]
  refine z_iload_n F dX1_addPerson_23 rfl ?_
  refine z_iast12 F (by with_reducible assumption) hpin dX1_addPerson_24 ?_
  refine z_aload_n F dX1_addPerson_25 rfl ?_
  refine zg_X1_margin F (by with_reducible assumption) fl_X1_21 dX1_addPerson_26 (fun hk_26 => ?_)
  refine z_aload_n F dX1_addPerson_29 rfl ?_
  refine zg_X1_personCount F (by with_reducible assumption) fl_X1_57 dX1_addPerson_30 ?_
  try simp only [zs_off _ n1, zs_off _ n2, zs_at, va_up_self, hn, nI_1, hpc]
  refine z_iload_n F dX1_addPerson_33 rfl ?_
  refine z_iast13 F (by with_reducible assumption) hpin dX1_addPerson_34 ?_
  refine z_aload F dX1_addPerson_35 rfl ?_
  refine zg_X5_theirs F (by with_reducible assumption) fl_X1_60 dX1_addPerson_37 (fun hk_37 => ?_)
  refine z_aload_n F dX1_addPerson_40 rfl ?_
  refine zg_X1_personCount F (by with_reducible assumption) fl_X1_57 dX1_addPerson_41 ?_
  try simp only [zs_off _ n1, zs_off _ n2, zs_at, va_up_self, hn, nI_1, hpc]
  refine z_iload_n F dX1_addPerson_44 rfl ?_
  refine z_iast11 F (by with_reducible assumption) hpin dX1_addPerson_45 ?_
  refine z_aload_n F dX1_addPerson_46 rfl ?_
  refine z_dup F dX1_addPerson_47 rfl ?_
  refine zg_X1_personCount F (by with_reducible assumption) fl_X1_57 dX1_addPerson_48 ?_
  try simp only [zs_off _ n1, zs_off _ n2, zs_at, va_up_self, hn, nI_1, hpc]
  refine z_iconst (v := 1) F dX1_addPerson_51 (by decide) ?_
  refine z_iadd F dX1_addPerson_52 ?_
  refine zp_X1_personCount F (by with_reducible assumption) fl_X1_57 dX1_addPerson_53 ?_
  refine z_aload_n F dX1_addPerson_56 rfl ?_
  refine zg_X1_personCount F (by with_reducible assumption) fl_X1_57 dX1_addPerson_57 ?_
  try simp only [zs_off _ n1, zs_off _ n2, zs_at, va_up_self, hn, nI_1, hpc]
  refine z_iconst (v := 1) F dX1_addPerson_60 (by decide) ?_
  refine z_isub F dX1_addPerson_61 ?_
  refine z_iret F X dX1_addPerson_62 ?_
  simp only [hpc, nI_pred]
  constructor <;> first | rfl | trivial
def mindsF (th : zF1) (a b : Nat) : Int32 := (0 ||| (if feltF th b 0 0 < feltF th a 0 0 then 1 else 0)) ||| (if feltF th b 1 0 < feltF th a 1 0 then 2 else 0)
theorem c_X1_mindsOf {l : Launch} {w : zE} (J : zJ w) {M : zM} {r : Nat} {a b : Int32} (hk : zk r = 1) (ha : 0 ≤ a ∧ a < 10) (hb : 0 ≤ b ∧ b < 10) : zCi l w yX1_mindsOf cX1_mindsOf 5 (some .int) 1 [.ref (w.2.2 r), .int a, .int b] M (fun v M2 => M2 = M ∧ v = mindsF (M.1 (r + 1)) a.toNatClampNeg b.toNatClampNeg) := by
  refine zCi_of J zm_X1_mindsOf [some (.ref (w.2.2 r)), some (.int a), some (.int b), none, none] (Nat.le_of_ble_eq_true rfl) rfl (fun g hg F X => ?_)
  subst hg
  refine z_iconst (v := 0) F dX1_mindsOf_0 (by decide) ?_
  refine z_istore_n (lv' := [_, _, _, _, _]) F dX1_mindsOf_1 (by decide) rfl rfl ?_
  refine z_iconst (v := 0) F dX1_mindsOf_2 (by decide) ?_
  refine z_istore (lv' := [_, _, _, _, _]) F dX1_mindsOf_3 (by decide) rfl rfl ?_
  refine z_iload F dX1_mindsOf_5 rfl ?_
  refine z_iconst (v := 1) F dX1_mindsOf_7 (by decide) ?_
  refine z_ic_gt (tgt := 51) F dX1_mindsOf_8 (by decide) (fun h_8 => absurd h_8 (by decide)) (fun h_8 => ?_)
  refine z_aload_n F dX1_mindsOf_11 rfl ?_
  refine zg_X1_things F (by with_reducible assumption) fl_X1_11 dX1_mindsOf_12 (fun hk_12 => ?_)
  refine z_iload_n F dX1_mindsOf_15 rfl ?_
  refine z_aald16 F (by with_reducible assumption) (vpl 10 (by decide) (by first | with_reducible assumption | grind)) dX1_mindsOf_16 (fun hk_16 hb_16 ho_16 => ?_)
  refine z_iload F dX1_mindsOf_17 rfl ?_
  refine z_iconst (v := 0) F dX1_mindsOf_19 (by decide) ?_
  refine z_callVi F (c_X4_feltBy J (by with_reducible assumption)) zm_X4_feltBy zv_X4_feltBy ml_X1_89 (by with_reducible assumption) (by decide) rfl rfl rfl (Nat.le_of_ble_eq_true rfl) dX1_mindsOf_20 (by decide) (fun r_20 M_20 h_20 => ?_)
  obtain ⟨e_20, rfl⟩ := h_20
  replace e_20 := Eq.symm e_20
  subst e_20
  refine z_aload_n F dX1_mindsOf_23 rfl ?_
  refine zg_X1_things F (by with_reducible assumption) fl_X1_11 dX1_mindsOf_24 (fun hk_24 => ?_)
  refine z_iload_n F dX1_mindsOf_27 rfl ?_
  refine z_aald16 F (by with_reducible assumption) (vpl 10 (by decide) (by first | with_reducible assumption | grind)) dX1_mindsOf_28 (fun hk_28 hb_28 ho_28 => ?_)
  refine z_iload F dX1_mindsOf_29 rfl ?_
  refine z_iconst (v := 0) F dX1_mindsOf_31 (by decide) ?_
  refine z_callVi F (c_X4_feltBy J (by with_reducible assumption)) zm_X4_feltBy zv_X4_feltBy ml_X1_89 (by with_reducible assumption) (by decide) rfl rfl rfl (Nat.le_of_ble_eq_true rfl) dX1_mindsOf_32 (by decide) (fun r_32 M_32 h_32 => ?_)
  obtain ⟨e_32, rfl⟩ := h_32
  replace e_32 := Eq.symm e_32
  subst e_32
  refine z_ic_le (tgt := 45) F dX1_mindsOf_35 (by decide) (fun h_35 => ?_) (fun h_35 => ?_)
  · refine z_iincc (c := 1) (lv' := [_, _, _, _, _]) F dX1_mindsOf_45 rfl (by decide) (by decide) rfl rfl ?_
    refine z_goto (tgt := 5) F dX1_mindsOf_48 (by decide) ?_
    refine z_iload F dX1_mindsOf_5 rfl ?_
    refine z_iconst (v := 1) F dX1_mindsOf_7 (by decide) ?_
    refine z_ic_gt (tgt := 51) F dX1_mindsOf_8 (by decide) (fun h_8x => absurd h_8x (by decide)) (fun h_8x => ?_)
    refine z_aload_n F dX1_mindsOf_11 rfl ?_
    refine zg_X1_things F (by with_reducible assumption) fl_X1_11 dX1_mindsOf_12 (fun hk_12x => ?_)
    refine z_iload_n F dX1_mindsOf_15 rfl ?_
    refine z_aald16 F (by with_reducible assumption) (vpl 10 (by decide) (by first | with_reducible assumption | grind)) dX1_mindsOf_16 (fun hk_16x hb_16x ho_16x => ?_)
    refine z_iload F dX1_mindsOf_17 rfl ?_
    refine z_iconst (v := 0) F dX1_mindsOf_19 (by decide) ?_
    refine z_callVi F (c_X4_feltBy J (by with_reducible assumption)) zm_X4_feltBy zv_X4_feltBy ml_X1_89 (by with_reducible assumption) (by decide) rfl rfl rfl (Nat.le_of_ble_eq_true rfl) dX1_mindsOf_20 (by decide) (fun r_20x M_20x h_20x => ?_)
    obtain ⟨e_20x, rfl⟩ := h_20x
    replace e_20x := Eq.symm e_20x
    subst e_20x
    refine z_aload_n F dX1_mindsOf_23 rfl ?_
    refine zg_X1_things F (by with_reducible assumption) fl_X1_11 dX1_mindsOf_24 (fun hk_24x => ?_)
    refine z_iload_n F dX1_mindsOf_27 rfl ?_
    refine z_aald16 F (by with_reducible assumption) (vpl 10 (by decide) (by first | with_reducible assumption | grind)) dX1_mindsOf_28 (fun hk_28x hb_28x ho_28x => ?_)
    refine z_iload F dX1_mindsOf_29 rfl ?_
    refine z_iconst (v := 0) F dX1_mindsOf_31 (by decide) ?_
    refine z_callVi F (c_X4_feltBy J (by with_reducible assumption)) zm_X4_feltBy zv_X4_feltBy ml_X1_89 (by with_reducible assumption) (by decide) rfl rfl rfl (Nat.le_of_ble_eq_true rfl) dX1_mindsOf_32 (by decide) (fun r_32x M_32x h_32x => ?_)
    obtain ⟨e_32x, rfl⟩ := h_32x
    replace e_32x := Eq.symm e_32x
    subst e_32x
    refine z_ic_le (tgt := 45) F dX1_mindsOf_35 (by decide) (fun h_35x => ?_) (fun h_35x => ?_)
    · refine z_iincc (c := 1) (lv' := [_, _, _, _, _]) F dX1_mindsOf_45 rfl (by decide) (by decide) rfl rfl ?_
      refine z_goto (tgt := 5) F dX1_mindsOf_48 (by decide) ?_
      refine z_iload F dX1_mindsOf_5 rfl ?_
      refine z_iconst (v := 1) F dX1_mindsOf_7 (by decide) ?_
      refine z_ic_gt (tgt := 51) F dX1_mindsOf_8 (by decide) (fun h_8xx => ?_) (fun h_8xx => absurd h_8xx (by decide))
      refine z_iload_n F dX1_mindsOf_51 rfl ?_
      refine z_iret F X dX1_mindsOf_52 ?_
      simp only [hb_16, ho_16, hb_28, ho_28, show (0 : Int32) + 1 = 1 from rfl] at h_35 h_35x
      refine ⟨rfl, ?_⟩
      unfold mindsF
      first | rw [if_pos h_35] | rw [if_neg (nlt h_35)]
      first | rw [if_pos h_35x] | rw [if_neg (nlt h_35x)]
      decide
    · refine z_iload_n F dX1_mindsOf_38 rfl ?_
      refine z_iconst (v := 1) F dX1_mindsOf_39 (by decide) ?_
      refine z_iload F dX1_mindsOf_40 rfl ?_
      refine z_ishl F dX1_mindsOf_42 ?_
      refine z_ior F dX1_mindsOf_43 ?_
      refine z_istore_n (lv' := [_, _, _, _, _]) F dX1_mindsOf_44 (by decide) rfl rfl ?_
      refine z_iincc (c := 1) (lv' := [_, _, _, _, _]) F dX1_mindsOf_45 rfl (by decide) (by decide) rfl rfl ?_
      refine z_goto (tgt := 5) F dX1_mindsOf_48 (by decide) ?_
      refine z_iload F dX1_mindsOf_5 rfl ?_
      refine z_iconst (v := 1) F dX1_mindsOf_7 (by decide) ?_
      refine z_ic_gt (tgt := 51) F dX1_mindsOf_8 (by decide) (fun h_8xx => ?_) (fun h_8xx => absurd h_8xx (by decide))
      refine z_iload_n F dX1_mindsOf_51 rfl ?_
      refine z_iret F X dX1_mindsOf_52 ?_
      simp only [hb_16, ho_16, hb_28, ho_28, show (0 : Int32) + 1 = 1 from rfl] at h_35 h_35x
      refine ⟨rfl, ?_⟩
      unfold mindsF
      first | rw [if_pos h_35] | rw [if_neg (nlt h_35)]
      first | rw [if_pos h_35x] | rw [if_neg (nlt h_35x)]
      decide
  · refine z_iload_n F dX1_mindsOf_38 rfl ?_
    refine z_iconst (v := 1) F dX1_mindsOf_39 (by decide) ?_
    refine z_iload F dX1_mindsOf_40 rfl ?_
    refine z_ishl F dX1_mindsOf_42 ?_
    refine z_ior F dX1_mindsOf_43 ?_
    refine z_istore_n (lv' := [_, _, _, _, _]) F dX1_mindsOf_44 (by decide) rfl rfl ?_
    refine z_iincc (c := 1) (lv' := [_, _, _, _, _]) F dX1_mindsOf_45 rfl (by decide) (by decide) rfl rfl ?_
    refine z_goto (tgt := 5) F dX1_mindsOf_48 (by decide) ?_
    refine z_iload F dX1_mindsOf_5 rfl ?_
    refine z_iconst (v := 1) F dX1_mindsOf_7 (by decide) ?_
    refine z_ic_gt (tgt := 51) F dX1_mindsOf_8 (by decide) (fun h_8x => absurd h_8x (by decide)) (fun h_8x => ?_)
    refine z_aload_n F dX1_mindsOf_11 rfl ?_
    refine zg_X1_things F (by with_reducible assumption) fl_X1_11 dX1_mindsOf_12 (fun hk_12x => ?_)
    refine z_iload_n F dX1_mindsOf_15 rfl ?_
    refine z_aald16 F (by with_reducible assumption) (vpl 10 (by decide) (by first | with_reducible assumption | grind)) dX1_mindsOf_16 (fun hk_16x hb_16x ho_16x => ?_)
    refine z_iload F dX1_mindsOf_17 rfl ?_
    refine z_iconst (v := 0) F dX1_mindsOf_19 (by decide) ?_
    refine z_callVi F (c_X4_feltBy J (by with_reducible assumption)) zm_X4_feltBy zv_X4_feltBy ml_X1_89 (by with_reducible assumption) (by decide) rfl rfl rfl (Nat.le_of_ble_eq_true rfl) dX1_mindsOf_20 (by decide) (fun r_20x M_20x h_20x => ?_)
    obtain ⟨e_20x, rfl⟩ := h_20x
    replace e_20x := Eq.symm e_20x
    subst e_20x
    refine z_aload_n F dX1_mindsOf_23 rfl ?_
    refine zg_X1_things F (by with_reducible assumption) fl_X1_11 dX1_mindsOf_24 (fun hk_24x => ?_)
    refine z_iload_n F dX1_mindsOf_27 rfl ?_
    refine z_aald16 F (by with_reducible assumption) (vpl 10 (by decide) (by first | with_reducible assumption | grind)) dX1_mindsOf_28 (fun hk_28x hb_28x ho_28x => ?_)
    refine z_iload F dX1_mindsOf_29 rfl ?_
    refine z_iconst (v := 0) F dX1_mindsOf_31 (by decide) ?_
    refine z_callVi F (c_X4_feltBy J (by with_reducible assumption)) zm_X4_feltBy zv_X4_feltBy ml_X1_89 (by with_reducible assumption) (by decide) rfl rfl rfl (Nat.le_of_ble_eq_true rfl) dX1_mindsOf_32 (by decide) (fun r_32x M_32x h_32x => ?_)
    obtain ⟨e_32x, rfl⟩ := h_32x
    replace e_32x := Eq.symm e_32x
    subst e_32x
    refine z_ic_le (tgt := 45) F dX1_mindsOf_35 (by decide) (fun h_35x => ?_) (fun h_35x => ?_)
    · refine z_iincc (c := 1) (lv' := [_, _, _, _, _]) F dX1_mindsOf_45 rfl (by decide) (by decide) rfl rfl ?_
      refine z_goto (tgt := 5) F dX1_mindsOf_48 (by decide) ?_
      refine z_iload F dX1_mindsOf_5 rfl ?_
      refine z_iconst (v := 1) F dX1_mindsOf_7 (by decide) ?_
      refine z_ic_gt (tgt := 51) F dX1_mindsOf_8 (by decide) (fun h_8xx => ?_) (fun h_8xx => absurd h_8xx (by decide))
      refine z_iload_n F dX1_mindsOf_51 rfl ?_
      refine z_iret F X dX1_mindsOf_52 ?_
      simp only [hb_16, ho_16, hb_28, ho_28, show (0 : Int32) + 1 = 1 from rfl] at h_35 h_35x
      refine ⟨rfl, ?_⟩
      unfold mindsF
      first | rw [if_pos h_35] | rw [if_neg (nlt h_35)]
      first | rw [if_pos h_35x] | rw [if_neg (nlt h_35x)]
      decide
    · refine z_iload_n F dX1_mindsOf_38 rfl ?_
      refine z_iconst (v := 1) F dX1_mindsOf_39 (by decide) ?_
      refine z_iload F dX1_mindsOf_40 rfl ?_
      refine z_ishl F dX1_mindsOf_42 ?_
      refine z_ior F dX1_mindsOf_43 ?_
      refine z_istore_n (lv' := [_, _, _, _, _]) F dX1_mindsOf_44 (by decide) rfl rfl ?_
      refine z_iincc (c := 1) (lv' := [_, _, _, _, _]) F dX1_mindsOf_45 rfl (by decide) (by decide) rfl rfl ?_
      refine z_goto (tgt := 5) F dX1_mindsOf_48 (by decide) ?_
      refine z_iload F dX1_mindsOf_5 rfl ?_
      refine z_iconst (v := 1) F dX1_mindsOf_7 (by decide) ?_
      refine z_ic_gt (tgt := 51) F dX1_mindsOf_8 (by decide) (fun h_8xx => ?_) (fun h_8xx => absurd h_8xx (by decide))
      refine z_iload_n F dX1_mindsOf_51 rfl ?_
      refine z_iret F X dX1_mindsOf_52 ?_
      simp only [hb_16, ho_16, hb_28, ho_28, show (0 : Int32) + 1 = 1 from rfl] at h_35 h_35x
      refine ⟨rfl, ?_⟩
      unfold mindsF
      first | rw [if_pos h_35] | rw [if_neg (nlt h_35)]
      first | rw [if_pos h_35x] | rw [if_neg (nlt h_35x)]
      decide
theorem c_X5_setFrom {l : Launch} {w : zE} (J : zJ w) {M : zM} {t t2 : Nat} (ht : zk t = 5) (ht2 : zk t2 = 5) (hne : t2 ≠ t) : zCv l w yX5_setFrom cX5_setFrom 2 1 [.ref (w.2.2 t), .ref (w.2.2 t2)] M (fun M2 => M2 = za M t (cpF 14 (M.1 t) (M.1 t2))) := by
  refine zCv_of J zm_X5_setFrom [some (.ref (w.2.2 t)), some (.ref (w.2.2 t2))] (Nat.le_of_ble_eq_true rfl) rfl (fun g hg F X => ?_)
  subst hg
  refine z_aload_n F dX5_setFrom_0 rfl ?_
  refine z_aload_n F dX5_setFrom_1 rfl ?_
  refine zg_X5_his F (by with_reducible assumption) fl_X5_9 dX5_setFrom_2 ?_
  try simp only [zs_off _ hne]
  refine zp_X5_his F (by with_reducible assumption) fl_X5_9 dX5_setFrom_5 ?_
  refine z_aload_n F dX5_setFrom_8 rfl ?_
  refine z_aload_n F dX5_setFrom_9 rfl ?_
  refine zg_X5_n F (by with_reducible assumption) fl_X5_22 dX5_setFrom_10 ?_
  try simp only [zs_off _ hne]
  refine zp_X5_n F (by with_reducible assumption) fl_X5_22 dX5_setFrom_13 ?_
  refine z_aload_n F dX5_setFrom_16 rfl ?_
  refine z_aload_n F dX5_setFrom_17 rfl ?_
  refine zg_X5_mind F (by with_reducible assumption) fl_X5_25 dX5_setFrom_18 ?_
  try simp only [zs_off _ hne]
  refine zp_X5_mind F (by with_reducible assumption) fl_X5_25 dX5_setFrom_21 ?_
  refine z_aload_n F dX5_setFrom_24 rfl ?_
  refine z_aload_n F dX5_setFrom_25 rfl ?_
  refine zg_X5_ahead F (by with_reducible assumption) fl_X5_28 dX5_setFrom_26 ?_
  try simp only [zs_off _ hne]
  refine zp_X5_ahead F (by with_reducible assumption) fl_X5_28 dX5_setFrom_29 ?_
  refine z_aload_n F dX5_setFrom_32 rfl ?_
  refine z_aload_n F dX5_setFrom_33 rfl ?_
  refine zg_X5_changes F (by with_reducible assumption) fl_X5_31 dX5_setFrom_34 ?_
  try simp only [zs_off _ hne]
  refine zp_X5_changes F (by with_reducible assumption) fl_X5_31 dX5_setFrom_37 ?_
  refine z_aload_n F dX5_setFrom_40 rfl ?_
  refine zg_X5_theirs F (by with_reducible assumption) fl_X5_18 dX5_setFrom_41 (fun hk_41 => ?_)
  refine z_iconst (v := 0) F dX5_setFrom_44 (by decide) ?_
  refine z_aload_n F dX5_setFrom_45 rfl ?_
  refine zg_X5_theirs F (by with_reducible assumption) fl_X5_18 dX5_setFrom_46 (fun hk_46 => ?_)
  refine z_iconst (v := 0) F dX5_setFrom_49 (by decide) ?_
  refine z_aload_n F dX5_setFrom_50 rfl ?_
  refine zg_X5_theirs F (by with_reducible assumption) fl_X5_18 dX5_setFrom_51 (fun hk_51 => ?_)
  refine z_alen11 F (by with_reducible assumption) dX5_setFrom_54 ?_
  refine z_copy11 F (by with_reducible assumption) (by with_reducible assumption) ac_X5_34 dX5_setFrom_55 (by decide) ?_
  refine z_vret F X dX5_setFrom_58 ?_
  simp only [zs_off _ hne, zs_za, za_za, za_at, za_off _ hne]
  refine congrArg (za M t) (funext fun o => ?_)
  unfold cpF va_up
  match o with
  | 0 => rfl
  | 1 => rfl
  | 2 => rfl
  | 3 => rfl
  | 4 => rfl
  | o + 5 =>
    by_cases h : o + 5 < 14
    · rw [if_pos h, if_pos (by omega)]
    · rw [if_neg h, if_neg (by omega)]; simp
theorem setF_cp (f g : zF1) (n : Nat) : setF (cpF (4 * n) f g) n (g (4 * n)) (g (4 * n + 1)) (g (4 * n + 2)) (g (4 * n + 3)) = cpF (4 * (n + 1)) f g := by
  funext o
  unfold setF cpF va_up
  by_cases h3 : o = 4 * n + 3
  · subst h3; rw [if_pos rfl, if_pos (by omega)]
  rw [if_neg h3]
  by_cases h2 : o = 4 * n + 2
  · subst h2; rw [if_pos rfl, if_pos (by omega)]
  rw [if_neg h2]
  by_cases h1 : o = 4 * n + 1
  · subst h1; rw [if_pos rfl, if_pos (by omega)]
  rw [if_neg h1]
  by_cases h0 : o = 4 * n
  · subst h0; rw [if_pos rfl, if_pos (by omega)]
  rw [if_neg h0]
  show (if o < 4 * n then g o else f o) = _
  by_cases h : o < 4 * n
  · rw [if_pos h, if_pos (by omega)]
  · rw [if_neg h, if_neg (by omega)]
/-- a road over another -/
def zrd (M : zM) (r : Nat) (rb th pe : zF1) : zM := za (za (za M (r + 1) th) (r + 12) pe) r rb
theorem c_X1_setFrom {l : Launch} {w : zE} (J : zJ w) {M : zM} {r r2 : Nat} (hk : zk r = 1) (hk2 : zk r2 = 1) (hne : r2 ≠ r) : zCv l w yX1_setFrom cX1_setFrom 4 1 [.ref (w.2.2 r), .ref (w.2.2 r2)] M (fun M2 => M2 = zrd M r (cpF 4 (M.1 r) (M.1 r2)) (cpF 40 (M.1 (r + 1)) (M.1 (r2 + 1))) (cpF 18 (M.1 (r + 12)) (M.1 (r2 + 12)))) := by
  obtain ⟨e1, e12, e13⟩ := zkf1 r (zk_i hk (by decide)) hk
  obtain ⟨g1, g12, g13⟩ := zkf1 r2 (zk_i hk2 (by decide)) hk2
  have n1 : r2 + 1 ≠ r + 1 := by omega
  have n12 : r2 + 12 ≠ r + 12 := by omega
  have m1 : r2 ≠ r + 1 := zk_ne hk2 e1 (by decide)
  have m2 : r2 ≠ r + 12 := zk_ne hk2 e12 (by decide)
  have m3 : r ≠ r + 1 := by omega
  have m4 : r ≠ r + 12 := by omega
  have m5 : r2 + 12 ≠ r := zk_ne g12 hk (by decide)
  have m6 : r2 + 12 ≠ r + 1 := zk_ne g12 e1 (by decide)
  have m7 : r + 12 ≠ r := by omega
  have m8 : r + 12 ≠ r + 1 := by omega
  refine zCv_of J zm_X1_setFrom [some (.ref (w.2.2 r)), some (.ref (w.2.2 r2)), none, none] (Nat.le_of_ble_eq_true rfl) rfl (fun g hg F X => ?_)
  subst hg
  have key : ∀ (j k : Nat) (x3 : Option Value), k + j = 10 → zok [some (.ref (w.2.2 r)), some (.ref (w.2.2 r2)), some (.int (nI k)), x3] 3 = true → ZW w g 4 2 [some (.ref (w.2.2 r)), some (.ref (w.2.2 r2)), some (.int (nI k)), x3] [] (za M (r + 1) (cpF (4 * k) (M.1 (r + 1)) (M.1 (r2 + 1)))) := by
    intro j
    induction j with
    | zero =>
      intro k x3 hkj hok
      have hkn : k = 10 := by omega
      subst hkn
      refine z_iload_n F dX1_setFrom_2 rfl ?_
      refine z_aload_n F dX1_setFrom_3 rfl ?_
      refine zg_X1_things F (by with_reducible assumption) fl_X1_11 dX1_setFrom_4 (fun hk_4 => ?_)
      refine z_alen16 F (by with_reducible assumption) dX1_setFrom_7 ?_
      refine z_ic_ge (tgt := 49) F dX1_setFrom_8 (by decide) (fun h_8 => ?_) (fun h_8 => absurd h_8 (by decide))
      refine z_aload_n F dX1_setFrom_49 rfl ?_
      refine z_aload_n F dX1_setFrom_50 rfl ?_
      refine zg_X1_thingCount F (by with_reducible assumption) fl_X1_48 dX1_setFrom_51 ?_
      try simp only [za_off _ hne, za_off _ m1, za_off _ m2, zs_off _ hne, zs_off _ m1, zs_off _ m2]
      refine zp_X1_thingCount F (by with_reducible assumption) fl_X1_48 dX1_setFrom_54 ?_
      refine z_aload_n F dX1_setFrom_57 rfl ?_
      refine zg_X1_where F (by with_reducible assumption) fl_X1_17 dX1_setFrom_58 (fun hk_58 => ?_)
      refine z_iconst (v := 0) F dX1_setFrom_61 (by decide) ?_
      refine z_aload_n F dX1_setFrom_62 rfl ?_
      refine zg_X1_where F (by with_reducible assumption) fl_X1_17 dX1_setFrom_63 (fun hk_63 => ?_)
      refine z_iconst (v := 0) F dX1_setFrom_66 (by decide) ?_
      refine z_aload_n F dX1_setFrom_67 rfl ?_
      refine zg_X1_where F (by with_reducible assumption) fl_X1_17 dX1_setFrom_68 (fun hk_68 => ?_)
      refine z_alen12 F (by with_reducible assumption) dX1_setFrom_71 ?_
      refine z_copy12 F (by with_reducible assumption) (by with_reducible assumption) ac_X1_51 dX1_setFrom_72 (by decide) ?_
      refine z_aload_n F dX1_setFrom_75 rfl ?_
      refine zg_X1_margin F (by with_reducible assumption) fl_X1_21 dX1_setFrom_76 (fun hk_76 => ?_)
      refine z_iconst (v := 0) F dX1_setFrom_79 (by decide) ?_
      refine z_aload_n F dX1_setFrom_80 rfl ?_
      refine zg_X1_margin F (by with_reducible assumption) fl_X1_21 dX1_setFrom_81 (fun hk_81 => ?_)
      refine z_iconst (v := 0) F dX1_setFrom_84 (by decide) ?_
      refine z_aload_n F dX1_setFrom_85 rfl ?_
      refine zg_X1_margin F (by with_reducible assumption) fl_X1_21 dX1_setFrom_86 (fun hk_86 => ?_)
      refine z_alen13 F (by with_reducible assumption) dX1_setFrom_89 ?_
      refine z_copy13 F (by with_reducible assumption) (by with_reducible assumption) ac_X1_51 dX1_setFrom_90 (by decide) ?_
      refine z_aload_n F dX1_setFrom_93 rfl ?_
      refine z_aload_n F dX1_setFrom_94 rfl ?_
      refine zg_X1_personCount F (by with_reducible assumption) fl_X1_57 dX1_setFrom_95 ?_
      try simp only [za_off _ hne, za_off _ m1, za_off _ m2, zs_off _ hne, zs_off _ m1, zs_off _ m2]
      refine zp_X1_personCount F (by with_reducible assumption) fl_X1_57 dX1_setFrom_98 ?_
      refine z_aload_n F dX1_setFrom_101 rfl ?_
      refine z_aload_n F dX1_setFrom_102 rfl ?_
      refine zg_X1_heed F (by with_reducible assumption) fl_X1_24 dX1_setFrom_103 ?_
      try simp only [za_off _ hne, za_off _ m1, za_off _ m2, zs_off _ hne, zs_off _ m1, zs_off _ m2]
      refine zp_X1_heed F (by with_reducible assumption) fl_X1_24 dX1_setFrom_106 ?_
      refine z_aload_n F dX1_setFrom_109 rfl ?_
      refine z_aload_n F dX1_setFrom_110 rfl ?_
      refine zg_X1_well F (by with_reducible assumption) fl_X1_28 dX1_setFrom_111 ?_
      try simp only [za_off _ hne, za_off _ m1, za_off _ m2, zs_off _ hne, zs_off _ m1, zs_off _ m2]
      refine zp_X1_well F (by with_reducible assumption) fl_X1_28 dX1_setFrom_114 ?_
      refine z_vret F X dX1_setFrom_117 ?_
      simp only [zs_za, za_at, za_za, za_off _ hne, za_off _ m1, za_off _ m2, za_off _ m3, za_off _ m4, za_off _ m5, za_off _ m6, za_off _ m7, za_off _ m8, za_off _ n12]
      have b1 : (fun o => if o % 2 = 1 ∧ o < 18 then M.1 (r2 + 12) o else if o % 2 = 0 ∧ o < 18 then M.1 (r2 + 12) o else M.1 (r + 12) o) = cpF 18 (M.1 (r + 12)) (M.1 (r2 + 12)) := by
        funext o
        unfold cpF
        by_cases h : o < 18
        · by_cases h2 : o % 2 = 1
          · rw [if_pos ⟨h2, h⟩, if_pos h]
          · rw [if_neg (by omega), if_pos (by omega), if_pos h]
        · rw [if_neg (by omega), if_neg (by omega), if_neg h]
      have b2 : va_up (va_up (va_up (va_up (M.1 r) 0 (M.1 r2 0)) 1 (M.1 r2 1)) 2 (M.1 r2 2)) 3 (M.1 r2 3) = cpF 4 (M.1 r) (M.1 r2) := by
        funext o
        match o with
        | 0 => rfl
        | 1 => rfl
        | 2 => rfl
        | 3 => rfl
        | o + 4 =>
          unfold cpF va_up
          rw [if_neg (by omega), if_neg (by omega), if_neg (by omega), if_neg (by omega), if_neg (by omega)]
      unfold zrd
      rw [b1, za_swap _ _ _ m4, za_za, b2]
    | succ j ih =>
      intro k x3 hkj hok
      have hpin : vp_in (nI k) 10 := vp_in_nI (by omega) (by decide)
      have hpc : (nI k).toNatClampNeg = k := nI_clamp (by omega)
      have ih2 := ih (k + 1)
      refine z_iload_n F dX1_setFrom_2 rfl ?_
      refine z_aload_n F dX1_setFrom_3 rfl ?_
      refine zg_X1_things F (by with_reducible assumption) fl_X1_11 dX1_setFrom_4 (fun hk_4 => ?_)
      refine z_alen16 F (by with_reducible assumption) dX1_setFrom_7 ?_
      refine z_ic_ge (tgt := 49) F dX1_setFrom_8 (by decide) (fun h_8 => absurd h_8 (Int32.not_le.mpr (nI_lt (b := 10) (by omega) (by decide)))) (fun h_8 => ?_)
      refine z_aload_n F dX1_setFrom_11 rfl ?_
      refine zg_X1_things F (by with_reducible assumption) fl_X1_11 dX1_setFrom_12 (fun hk_12 => ?_)
      refine z_iload_n F dX1_setFrom_15 rfl ?_
      refine z_aald16 F (by with_reducible assumption) hpin dX1_setFrom_16 (fun hk_16 hb_16 ho_16 => ?_)
      refine z_astore_n (lv' := [_, _, _, _]) F dX1_setFrom_17 (by decide) rfl rfl ?_
      refine z_aload_n F dX1_setFrom_18 rfl ?_
      refine zg_X1_things F (by with_reducible assumption) fl_X1_11 dX1_setFrom_19 (fun hk_19 => ?_)
      refine z_iload_n F dX1_setFrom_22 rfl ?_
      refine z_aald16 F (by with_reducible assumption) hpin dX1_setFrom_23 (fun hk_23 hb_23 ho_23 => ?_)
      refine z_aload_n F dX1_setFrom_24 rfl ?_
      refine zg_X4_kind F (by with_reducible assumption) fl_X1_32 dX1_setFrom_25 ?_
      refine z_aload_n F dX1_setFrom_28 rfl ?_
      refine zg_X4_worth F (by with_reducible assumption) fl_X1_35 dX1_setFrom_29 ?_
      refine z_aload_n F dX1_setFrom_32 rfl ?_
      refine zg_X4_load F (by with_reducible assumption) fl_X1_38 dX1_setFrom_33 ?_
      refine z_aload_n F dX1_setFrom_36 rfl ?_
      refine zg_X4_care F (by with_reducible assumption) fl_X1_41 dX1_setFrom_37 ?_
      refine z_callVv F (c_X4_set J (by with_reducible assumption)) zm_X4_set zv_X4_set ml_X1_44 (by with_reducible assumption) (by decide) rfl rfl rfl (Nat.le_of_ble_eq_true rfl) dX1_setFrom_40 (by decide) (fun M_40 h_40 => ?_)
      replace h_40 := Eq.symm h_40
      subst h_40
      refine z_iincc (c := 1) (lv' := [_, _, _, _]) F dX1_setFrom_43 rfl (by decide) (by decide) rfl rfl ?_
      refine z_goto (tgt := 2) F dX1_setFrom_46 (by decide) ?_
      simp only [hpc] at hb_16 ho_16 hb_23 ho_23 ⊢
      simp only [hb_16, ho_16, hb_23, ho_23, za_off _ n1, za_at, za_za, setF_cp, nI_1]
      exact ih2 _ (by omega) rfl
  refine z_iconst (v := 0) F dX1_setFrom_0 (by decide) ?_
  refine z_istore_n (lv' := [_, _, _, _]) F dX1_setFrom_1 (by decide) rfl rfl ?_
  have k0 := key 10 0 none (by omega) rfl
  have e : cpF (4 * 0) (M.1 (r + 1)) (M.1 (r2 + 1)) = M.1 (r + 1) := rfl
  rw [e, za_self] at k0
  exact k0
end
section
/-! which ints the heap shows: others may be taken as one likes -/
def zrep (i b o : Nat) : Nat → Prop
  | 1 => b = i ∧ o < 4
  | 4 => b = zb i ∧ o / 4 = zo i
  | 5 => (b = i ∧ o < 5) ∨ (b = i + 1 ∧ o = 0)
  | 9 => b = i ∧ o < 120
  | 10 => b = i ∧ o < 187
  | 11 => b = i - 1 ∧ 5 ≤ o ∧ o < 14
  | 12 => b = i ∧ o % 2 = 0 ∧ o < 18
  | 13 => b = i - 1 ∧ o % 2 = 1 ∧ o < 18
  | 14 => False
  | 15 => False
  | 16 => False
  | 17 => False
  | 18 => b = i ∧ o < 8
  | _ => b = i ∧ o < 30
theorem arrV_ext {cI : ClassId} {N : Nat} {f h : Nat → Value} (e : ∀ j, j < N → f j = h j) : arrV cI N f = arrV cI N h := by
  unfold arrV
  congr 2
  funext j
  exact e j.1 j.2
theorem vpi_ext {c : ClassId} {n : Nat} {f h : zF1} (e : ∀ j, j < n → h j = f j) : vp_cell c (n, .inl f) = vp_cell c (n, .inl h) := by
  rw [vp_cell_i, vp_cell_i]
  exact arrV_ext fun j hj => congrArg Value.int (e j hj).symm
theorem vpj_ext {c : ClassId} {n : Nat} {f h : Nat → Int64} (e : ∀ j, j < n → h j = f j) : vp_cell c (n, .inr (.inl f)) = vp_cell c (n, .inr (.inl h)) := by
  rw [vp_cell_l, vp_cell_l]
  exact arrV_ext fun j hj => congrArg Value.long (e j hj).symm
theorem vpq_ext {c : ClassId} {n : Nat} {f h : Nat → Option Nat} (e : ∀ j, j < n → h j = f j) : vp_cell c (n, .inr (.inr (.inr (.inr f)))) = vp_cell c (n, .inr (.inr (.inr (.inr h)))) := by
  rw [vp_cell_q, vp_cell_q]
  exact arrV_ext fun j hj => congrArg va_rf (e j hj).symm
theorem zn_le (i : Nat) : zn i ≤ 187 := by
  rcases Nat.lt_or_ge i 153 with q | q
  · exact (by decide +kernel : ∀ i, i < 153 → zn i ≤ 187) i q
  · unfold zn
    repeat rw [if_neg (by omega)]
    omega
theorem zat_9 {w : zE} {M M' : zM} {H : Heap} {i : Nat} (e : ∀ j, j < 120 → (M'.1 i) j = (M.1 i) j) (h : va_at w.1 vwCl (w.2.2 i, zcK w M i 9) H) : va_at w.1 vwCl (w.2.2 i, zcK w M' i 9) H := Eq.trans (show H[w.2.2 i]? = some (vp_cell (w.2.1 0) (120, .inl (M.1 i))) from h) (congrArg some (vpi_ext e))
theorem zat_10 {w : zE} {M M' : zM} {H : Heap} {i : Nat} (e : ∀ j, j < zn i → (M'.1 i) j = (M.1 i) j) (h : va_at w.1 vwCl (w.2.2 i, zcK w M i 10) H) : va_at w.1 vwCl (w.2.2 i, zcK w M' i 10) H := Eq.trans (show H[w.2.2 i]? = some (vp_cell (w.2.1 1) (zn i, .inl (M.1 i))) from h) (congrArg some (vpi_ext e))
theorem zat_11 {w : zE} {M M' : zM} {H : Heap} {i : Nat} (e : ∀ j, j < 9 → (fun k => M'.1 (i - 1) (5 + k)) j = (fun k => M.1 (i - 1) (5 + k)) j) (h : va_at w.1 vwCl (w.2.2 i, zcK w M i 11) H) : va_at w.1 vwCl (w.2.2 i, zcK w M' i 11) H := Eq.trans (show H[w.2.2 i]? = some (vp_cell (w.2.1 1) (9, .inl (fun k => M.1 (i - 1) (5 + k)))) from h) (congrArg some (vpi_ext e))
theorem zat_12 {w : zE} {M M' : zM} {H : Heap} {i : Nat} (e : ∀ j, j < 9 → (fun k => M'.1 i (2 * k)) j = (fun k => M.1 i (2 * k)) j) (h : va_at w.1 vwCl (w.2.2 i, zcK w M i 12) H) : va_at w.1 vwCl (w.2.2 i, zcK w M' i 12) H := Eq.trans (show H[w.2.2 i]? = some (vp_cell (w.2.1 1) (9, .inl (fun k => M.1 i (2 * k)))) from h) (congrArg some (vpi_ext e))
theorem zat_13 {w : zE} {M M' : zM} {H : Heap} {i : Nat} (e : ∀ j, j < 9 → (fun k => M'.1 (i - 1) (2 * k + 1)) j = (fun k => M.1 (i - 1) (2 * k + 1)) j) (h : va_at w.1 vwCl (w.2.2 i, zcK w M i 13) H) : va_at w.1 vwCl (w.2.2 i, zcK w M' i 13) H := Eq.trans (show H[w.2.2 i]? = some (vp_cell (w.2.1 1) (9, .inl (fun k => M.1 (i - 1) (2 * k + 1)))) from h) (congrArg some (vpi_ext e))
theorem zat_14 {w : zE} {M M' : zM} {H : Heap} {i : Nat} (e : ∀ j, j < zn i → (M'.2 i) j = (M.2 i) j) (h : va_at w.1 vwCl (w.2.2 i, zcK w M i 14) H) : va_at w.1 vwCl (w.2.2 i, zcK w M' i 14) H := Eq.trans (show H[w.2.2 i]? = some (vp_cell (w.2.1 2) (zn i, .inr (.inl (M.2 i)))) from h) (congrArg some (vpj_ext e))
theorem zat_18 {w : zE} {M M' : zM} {H : Heap} {i : Nat} (e : ∀ j, j < 8 → (fun k => some (w.2.2 (i + 1 + 2 * (M'.1 i k).toNatClampNeg))) j = (fun k => some (w.2.2 (i + 1 + 2 * (M.1 i k).toNatClampNeg))) j) (h : va_at w.1 vwCl (w.2.2 i, zcK w M i 18) H) : va_at w.1 vwCl (w.2.2 i, zcK w M' i 18) H := Eq.trans (show H[w.2.2 i]? = some (vp_cell (w.2.1 5) (8, .inr (.inr (.inr (.inr (fun k => some (w.2.2 (i + 1 + 2 * (M.1 i k).toNatClampNeg)))))))) from h) (congrArg some (vpq_ext e))
theorem zat_ext {w : zE} {M M' : zM} {H : Heap} {i : Nat} (h1 : ∀ b o, zrep i b o (zk i) → M'.1 b o = M.1 b o) (h2 : ∀ o, o < zn i → M'.2 i o = M.2 i o) (h : va_at w.1 vwCl (w.2.2 i, zc w M i) H) : va_at w.1 vwCl (w.2.2 i, zc w M' i) H := by
  have hz := zn_le i
  unfold zc at *
  generalize zk i = k at *
  match k with
  | 0 => rw [show zcK w M' i 0 = zcK w M i 0 by simp only [zcK, h1 i 4 (show zrep i i 4 0 from ⟨rfl, by omega⟩)]]; exact h
  | 1 => rw [show zcK w M' i 1 = zcK w M i 1 by simp only [zcK, h1 i 0 (show zrep i i 0 1 from ⟨rfl, by omega⟩), h1 i 1 (show zrep i i 1 1 from ⟨rfl, by omega⟩), h1 i 2 (show zrep i i 2 1 from ⟨rfl, by omega⟩), h1 i 3 (show zrep i i 3 1 from ⟨rfl, by omega⟩)]]; exact h
  | 2 => rw [show zcK w M' i 2 = zcK w M i 2 by simp only [zcK, h1 i 0 (show zrep i i 0 2 from ⟨rfl, by omega⟩), h1 i 1 (show zrep i i 1 2 from ⟨rfl, by omega⟩), h1 i 2 (show zrep i i 2 2 from ⟨rfl, by omega⟩)]]; exact h
  | 3 => rw [show zcK w M' i 3 = zcK w M i 3 by simp only [zcK, h1 i 1 (show zrep i i 1 3 from ⟨rfl, by omega⟩), h1 i 2 (show zrep i i 2 3 from ⟨rfl, by omega⟩)]]; exact h
  | 4 => rw [show zcK w M' i 4 = zcK w M i 4 by simp only [zcK, h1 (zb i) (4 * zo i) ⟨rfl, by omega⟩, h1 (zb i) (4 * zo i + 1) ⟨rfl, by omega⟩, h1 (zb i) (4 * zo i + 2) ⟨rfl, by omega⟩, h1 (zb i) (4 * zo i + 3) ⟨rfl, by omega⟩]]; exact h
  | 5 => rw [show zcK w M' i 5 = zcK w M i 5 by simp only [zcK, h1 i 0 (Or.inl ⟨rfl, by omega⟩), h1 i 1 (Or.inl ⟨rfl, by omega⟩), h1 i 2 (Or.inl ⟨rfl, by omega⟩), h1 i 3 (Or.inl ⟨rfl, by omega⟩), h1 i 4 (Or.inl ⟨rfl, by omega⟩), h1 (i + 1) 0 (Or.inr ⟨rfl, rfl⟩)]]; exact h
  | 6 => rw [show zcK w M' i 6 = zcK w M i 6 by simp only [zcK, h1 i 3 (show zrep i i 3 6 from ⟨rfl, by omega⟩)]]; exact h
  | 7 => rw [show zcK w M' i 7 = zcK w M i 7 by simp only [zcK, h1 i 2 (show zrep i i 2 7 from ⟨rfl, by omega⟩)]]; exact h
  | 8 =>
    have q : ∀ o, o < 30 → M'.1 i o = M.1 i o := fun o ho => h1 i o (show zrep i i o 8 from ⟨rfl, ho⟩)
    rw [show zcK w M' i 8 = zcK w M i 8 by simp only [zcK, q 0 (by omega), q 1 (by omega), q 5 (by omega), q 6 (by omega), q 7 (by omega), q 8 (by omega), q 10 (by omega), q 11 (by omega), q 12 (by omega), q 13 (by omega), q 14 (by omega), q 15 (by omega), q 18 (by omega), q 20 (by omega), q 25 (by omega)]]
    exact h
  | 9 => exact zat_9 (fun j hj => h1 i j (show zrep i i j 9 from ⟨rfl, hj⟩)) h
  | 10 => exact zat_10 (fun j hj => h1 i j (show zrep i i j 10 from ⟨rfl, Nat.lt_of_lt_of_le hj hz⟩)) h
  | 11 => exact zat_11 (fun j hj => h1 (i - 1) (5 + j) (show zrep i (i - 1) (5 + j) 11 from ⟨rfl, by omega, by omega⟩)) h
  | 12 => exact zat_12 (fun j hj => h1 i (2 * j) (show zrep i i (2 * j) 12 from ⟨rfl, by omega, by omega⟩)) h
  | 13 => exact zat_13 (fun j hj => h1 (i - 1) (2 * j + 1) (show zrep i (i - 1) (2 * j + 1) 13 from ⟨rfl, by omega, by omega⟩)) h
  | 14 => exact zat_14 (fun j hj => h2 j hj) h
  | 15 => simp only [zcK] at h ⊢; exact h
  | 16 => simp only [zcK] at h ⊢; exact h
  | 17 => simp only [zcK] at h ⊢; exact h
  | 18 => exact zat_18 (fun j hj => by show some _ = some _; rw [h1 i j (show zrep i i j 18 from ⟨rfl, hj⟩)]) h
  | n + 19 => simp only [zcK] at h ⊢; exact h
def zbd : Nat → Nat
  | 1 => 4
  | 5 => 14
  | 9 => 120
  | 11 => 1
  | 12 => 18
  | 16 => 40
  | 18 => 8
  | _ => 187
theorem zrep_bd {i b o : Nat} (hi : i < 154) (h : zrep i b o (zk i)) : o < zbd (zk b) := by
  obtain ⟨h4, h5, h11, h12, h13, h18⟩ := zk_lay i hi
  have h4b : ∀ i, i < 154 → zk i = 4 → zo i < 10 := by decide +kernel
  have h4b := h4b i hi
  generalize hk : zk i = k at *
  match k, h18 with
  | 0, _ => obtain ⟨rfl, q⟩ := h; rw [hk]; show o < 187; omega
  | 1, _ => obtain ⟨rfl, q⟩ := h; rw [hk]; exact q
  | 2, _ => obtain ⟨rfl, q⟩ := h; rw [hk]; show o < 187; omega
  | 3, _ => obtain ⟨rfl, q⟩ := h; rw [hk]; show o < 187; omega
  | 4, _ => obtain ⟨rfl, q⟩ := h; rw [(h4 rfl).1]; have := h4b rfl; show o < 40; omega
  | 5, _ =>
    rcases h with ⟨rfl, q⟩ | ⟨rfl, q⟩
    · rw [hk]; show o < 14; omega
    · rw [h5 rfl]; show o < 1; omega
  | 6, _ => obtain ⟨rfl, q⟩ := h; rw [hk]; show o < 187; omega
  | 7, _ => obtain ⟨rfl, q⟩ := h; rw [hk]; show o < 187; omega
  | 8, _ => obtain ⟨rfl, q⟩ := h; rw [hk]; show o < 187; omega
  | 9, _ => obtain ⟨rfl, q⟩ := h; rw [hk]; exact q
  | 10, _ => obtain ⟨rfl, q⟩ := h; rw [hk]; exact q
  | 11, _ => obtain ⟨rfl, q, q2⟩ := h; rw [(h11 rfl).2]; exact q2
  | 12, _ => obtain ⟨rfl, q, q2⟩ := h; rw [hk]; exact q2
  | 13, _ => obtain ⟨rfl, q, q2⟩ := h; rw [(h13 rfl).2]; exact q2
  | 14, _ => exact absurd h (by simp [zrep])
  | 15, _ => exact absurd h (by simp [zrep])
  | 16, _ => exact absurd h (by simp [zrep])
  | 17, _ => exact absurd h (by simp [zrep])
  | 18, _ => obtain ⟨rfl, q⟩ := h; rw [hk]; exact q
  | n + 19, q => omega
/-- two memories that the heap can't tell apart -/
def zEq (M M' : zM) : Prop := (∀ b o, o < zbd (zk b) → M'.1 b o = M.1 b o) ∧ ∀ i o, o < zn i → M'.2 i o = M.2 i o
theorem zP_eq {w : zE} {M M' : zM} {H : Heap} (e : zEq M M') (h : zP w M H) : zP w M' H := fun i hi => zat_ext (fun b o q => e.1 b o (zrep_bd hi q)) (e.2 i) (h i hi)
theorem zEq.rf (M : zM) : zEq M M := ⟨fun _ _ _ => rfl, fun _ _ _ => rfl⟩
theorem zEq.tr {M M' M2 : zM} (h : zEq M M') (h2 : zEq M' M2) : zEq M M2 := ⟨fun b o q => (h2.1 b o q).trans (h.1 b o q), fun i o q => (h2.2 i o q).trans (h.2 i o q)⟩
theorem zEq.blk {M M' : zM} {b : Nat} {f h : zF1} (e : zEq M M') (hf : ∀ o, o < zbd (zk b) → h o = f o) : zEq (za M b f) (za M' b h) := by
  refine ⟨fun c o q => ?_, e.2⟩
  show va_up M'.1 b h c o = va_up M.1 b f c o
  by_cases hc : c = b
  · subst hc
    rw [va_up_self, va_up_self]
    exact hf o q
  · rw [va_up_ne _ _ hc, va_up_ne _ _ hc]
    exact e.1 c o q
theorem z_sim {w : zE} {g : zG} {nL pc : Nat} {lv : List (Option Value)} {st : List Value} {M M' : zM} (e : zEq M M') (k : ZW w g nL pc lv st M') : ZW w g nL pc lv st M := fun H locs ls hl hP hS => k H locs ls hl (zP_eq e hP) hS
theorem cpF_bd {n o : Nat} {f h : zF1} (ho : o < n) : h o = cpF n f h o := (if_pos ho).symm
end
section
theorem zMet_mono {l : Launch} {y : MethodName} {ws : List Cond} {rm : Room} {Pc : Array Value → State → Prop} {Qc Qd : Array Value → State → Outcome → State → Prop} {mc ms : Nat} {free : Addr → Prop} (h : ∀ a st o t, Qc a st o t → Qd a st o t) (hM : Met l y ws rm Pc Qc mc ms free) : Met l y ws rm Pc Qd mc ms free := by
  intro p e ha hc hk s m args below hf happ hP hK
  obtain ⟨k, o, h1, h2, h3, hq, hL⟩ := hM p e ha hc hk s m args below hf happ hP hK
  exact ⟨k, o, h1, h2, h3, h _ _ _ _ hq, hL⟩
theorem zCv_mono {l : Launch} {w : zE} {y : MethodName} {bytes : ByteArray} {maxL d : Nat} {args : List Value} {M : zM} {p1 p2 : zM → Prop} (h : ∀ M2, p1 M2 → ∃ M3, zEq M2 M3 ∧ p2 M3) (hC : zCv l w y bytes maxL d args M p1) : zCv l w y bytes maxL d args M p2 := by
  refine zMet_mono (fun a st o t q => ?_) hC
  obtain ⟨⟨u, e1, e2, e3⟩, e4⟩ := q
  obtain ⟨M3, h1, h2⟩ := h u e2
  exact ⟨⟨M3, e1, h2, zP_eq h1 e3⟩, e4⟩
theorem zCi_mono {l : Launch} {w : zE} {y : MethodName} {bytes : ByteArray} {maxL d : Nat} {ret : Option FieldType} {args : List Value} {M : zM} {p1 p2 : Int32 → zM → Prop} (h : ∀ v M2, p1 v M2 → ∃ M3, zEq M2 M3 ∧ p2 v M3) (hC : zCi l w y bytes maxL ret d args M p1) : zCi l w y bytes maxL ret d args M p2 := by
  refine zMet_mono (fun a st o t q => ?_) hC
  obtain ⟨⟨r, u, e1, e2, e3⟩, e4⟩ := q
  obtain ⟨M3, h1, h2⟩ := h r u e2
  exact ⟨⟨r, M3, e1, h2, zP_eq h1 e3⟩, e4⟩
/-- as from memories that the heap can't tell apart -/
theorem zPre_eq {w : zE} {args : List Value} {M M' : zM} (e : zEq M M') {a : Array Value} {U : State} (h : zPre w args M a U) : zPre w args M' a U := ⟨h.1, zP_eq e h.2.1, h.2.2⟩
theorem d_X5_setFrom {l : Launch} {w : zE} (J : zJ w) {M : zM} {t t2 : Nat} (ht : zk t = 5) (ht2 : zk t2 = 5) (hne : t2 ≠ t) : zCv l w yX5_setFrom cX5_setFrom 2 1 [.ref (w.2.2 t), .ref (w.2.2 t2)] M (fun M2 => M2 = za M t (M.1 t2)) :=
  zCv_mono (fun M2 h => ⟨_, by rw [h]; exact (zEq.rf M).blk (fun o ho => by rw [ht] at ho; exact cpF_bd ho), rfl⟩) (c_X5_setFrom J ht ht2 hne)
theorem d_X1_setFrom {l : Launch} {w : zE} (J : zJ w) {M : zM} {r r2 : Nat} (hk : zk r = 1) (hk2 : zk r2 = 1) (hne : r2 ≠ r) : zCv l w yX1_setFrom cX1_setFrom 4 1 [.ref (w.2.2 r), .ref (w.2.2 r2)] M (fun M2 => M2 = zrd M r (M.1 r2) (M.1 (r2 + 1)) (M.1 (r2 + 12))) := by
  obtain ⟨e1, e12, e13⟩ := zkf1 r (zk_i hk (by decide)) hk
  refine zCv_mono (fun M2 h => ⟨_, ?_, rfl⟩) (c_X1_setFrom J hk hk2 hne)
  rw [h]
  exact (((zEq.rf M).blk (fun o ho => by rw [e1] at ho; exact cpF_bd ho)).blk (fun o ho => by rw [e12] at ho; exact cpF_bd ho)).blk (fun o ho => by rw [hk] at ho; exact cpF_bd ho)
/-- a foretelling's start: the road and the trip as now -/
def zbeg (M : zM) (f n : Nat) : zM := zt (zrd M (f + 1) (M.1 (n + 1)) (M.1 (n + 1 + 1)) (M.1 (n + 1 + 12))) (f + 15) (M.1 (n + 15)) (-4)
theorem c_X0_begin {l : Launch} {w : zE} (J : zJ w) {M : zM} {f n : Nat} (hk : zk f = 0) (hn : zk n = 6) (hf : f = 87) (hn1 : n = 1) : zCv l w yX0_begin cX0_begin 2 2 [.ref (w.2.2 f), .ref (w.2.2 n)] M (fun M2 => M2 = zbeg M f n) := by
  refine zCv_of J zm_X0_begin [some (.ref (w.2.2 f)), some (.ref (w.2.2 n))] (Nat.le_of_ble_eq_true rfl) rfl (fun g hg F X => ?_)
  subst hg
  refine z_aload_n F dX0_begin_0 rfl ?_
  refine zg_X0_road F (by with_reducible assumption) fl_X0_12 dX0_begin_1 (fun hk_1 => ?_)
  refine z_aload_n F dX0_begin_4 rfl ?_
  refine zg_X6_road F (by with_reducible assumption) fl_X0_32 dX0_begin_5 (fun hk_5 => ?_)
  refine z_callVv F (d_X1_setFrom J (by with_reducible assumption) (by with_reducible assumption) (by omega)) zm_X1_setFrom zv_X1_setFrom ml_X0_35 (by with_reducible assumption) (by decide) rfl rfl rfl (Nat.le_of_ble_eq_true rfl) dX0_begin_8 (by decide) (fun M_8 h_8 => ?_)
  replace h_8 := Eq.symm h_8
  subst h_8
  refine z_aload_n F dX0_begin_11 rfl ?_
  refine zg_X0_trip F (by with_reducible assumption) fl_X0_21 dX0_begin_12 (fun hk_12 => ?_)
  refine z_aload_n F dX0_begin_15 rfl ?_
  refine zg_X6_trip F (by with_reducible assumption) fl_X0_39 dX0_begin_16 (fun hk_16 => ?_)
  refine z_callVv F (d_X5_setFrom J (by with_reducible assumption) (by with_reducible assumption) (by omega)) zm_X5_setFrom zv_X5_setFrom ml_X0_40 (by with_reducible assumption) (by decide) rfl rfl rfl (Nat.le_of_ble_eq_true rfl) dX0_begin_19 (by decide) (fun M_19 h_19 => ?_)
  replace h_19 := Eq.symm h_19
  subst h_19
  refine z_aload_n F dX0_begin_22 rfl ?_
  refine zg_X0_trip F (by with_reducible assumption) fl_X0_21 dX0_begin_23 (fun hk_23 => ?_)
  refine z_bipush (v := (-4)) F dX0_begin_26 (by decide) ?_
  refine zp_X5_refused F (by with_reducible assumption) fl_X0_43 dX0_begin_28 ?_
  refine z_vret F X dX0_begin_31 ?_
  unfold zbeg
  have q : (zrd M (f + 1) (M.1 (n + 1)) (M.1 (n + 1 + 1)) (M.1 (n + 1 + 12))).1 (n + 15) = M.1 (n + 15) := by unfold zrd; rw [za_off _ (by omega), za_off _ (by omega), za_off _ (by omega)]
  rw [q, za_zt, zs_ztr]
/-- home: as many milestones as are left -/
def homeF (rb th pe : zF1) (np : Nat) : Nat → zF1 × Int32 → zF1 × Int32
  | 0, s => s
  | k + 1, s => homeF rb th pe np k (passF rb th pe np 1 s)
theorem c_X0_walkHome {l : Launch} {w : zE} (J : zJ w) {M : zM} {f np a : Nat} (hk : zk f = 0) (hn : M.1 (f + 1) 0 ≤ 10) (hnp : M.1 (f + 1) 1 = nI np) (hnp9 : np ≤ 9) (ha : M.1 (f + 15) 3 = nI a) (ha12 : a ≤ 12) : zCv l w yX0_walkHome cX0_walkHome 2 4 [.ref (w.2.2 f)] M (fun M2 => M2 = zt M (f + 15) (homeF (M.1 (f + 1)) (M.1 (f + 1 + 1)) (M.1 (f + 1 + 12)) np (12 - a) (M.1 (f + 15), M.1 (f + 15 + 1) 0)).1 (homeF (M.1 (f + 1)) (M.1 (f + 1 + 1)) (M.1 (f + 1 + 12)) np (12 - a) (M.1 (f + 15), M.1 (f + 15 + 1) 0)).2) := by
  obtain ⟨k1, k15, k17, k19⟩ := zkf0 f (zk_i hk (by decide)) hk
  have q0 : ∀ T rf, (zt M (f + 15) T rf).1 (f + 1) = M.1 (f + 1) := fun T rf => zt_off (by omega) (by omega)
  have q1 : ∀ T rf, (zt M (f + 15) T rf).1 (f + 1 + 1) = M.1 (f + 1 + 1) := fun T rf => zt_off (by omega) (by omega)
  have q12 : ∀ T rf, (zt M (f + 15) T rf).1 (f + 1 + 12) = M.1 (f + 1 + 12) := fun T rf => zt_off (by omega) (by omega)
  have qt : ∀ T rf, (zt M (f + 15) T rf).1 (f + 15) = T := zt_t M (f + 15)
  have qr : ∀ T rf, (zt M (f + 15) T rf).1 (f + 15 + 1) 0 = rf := fun T rf => by rw [zt_r, va_up_self]
  refine zCv_of J zm_X0_walkHome [some (.ref (w.2.2 f)), none] (Nat.le_of_ble_eq_true rfl) rfl (fun g hg F X => ?_)
  subst hg
  generalize hs1 : homeF (M.1 (f + 1)) (M.1 (f + 1 + 1)) (M.1 (f + 1 + 12)) np (12 - a) (M.1 (f + 15), M.1 (f + 15 + 1) 0) = s1 at X
  have key : ∀ (j k : Nat) (s : zF1 × Int32), k + j = 12 → homeF (M.1 (f + 1)) (M.1 (f + 1 + 1)) (M.1 (f + 1 + 12)) np j s = s1 → ZW w g 2 8 [some (.ref (w.2.2 f)), some (.int (nI k))] [] (zt M (f + 15) s.1 s.2) := by
    intro j
    induction j with
    | zero =>
      intro k s hkj hs
      have hkn : k = 12 := by omega
      subst hkn
      have hs : s = s1 := hs
      subst hs
      refine z_iload_n F dX0_walkHome_8 rfl ?_
      refine z_bipush (v := 12) F dX0_walkHome_9 (by decide) ?_
      refine z_ic_ge (tgt := 33) F dX0_walkHome_11 (by decide) (fun h_11 => ?_) (fun h_11 => absurd h_11 (by decide))
      refine z_vret F X dX0_walkHome_33 ?_
      rfl
    | succ j ih =>
      intro k s hkj hs
      have ih2 := ih (k + 1) (passF (M.1 (f + 1)) (M.1 (f + 1 + 1)) (M.1 (f + 1 + 12)) np 1 s) (by omega) hs
      rw [← nI_1] at ih2
      refine z_iload_n F dX0_walkHome_8 rfl ?_
      refine z_bipush (v := 12) F dX0_walkHome_9 (by decide) ?_
      refine z_ic_ge (tgt := 33) F dX0_walkHome_11 (by decide) (fun h_11 => absurd h_11 (Int32.not_le.mpr (nI_lt (b := 12) (by omega) (by decide)))) (fun h_11 => ?_)
      refine z_aload_n F dX0_walkHome_14 rfl ?_
      refine zg_X0_road F (by with_reducible assumption) fl_X0_12 dX0_walkHome_15 (fun hk_15 => ?_)
      refine z_aload_n F dX0_walkHome_18 rfl ?_
      refine zg_X0_trip F (by with_reducible assumption) fl_X0_21 dX0_walkHome_19 (fun hk_19 => ?_)
      refine z_iconst (v := 1) F dX0_walkHome_22 (by decide) ?_
      refine z_callVi F (c_X1_pass J (by with_reducible assumption) (by with_reducible assumption) (by rw [q0]; exact hn) (np := np) (by rw [q0]; exact hnp) hnp9) zm_X1_pass zv_X1_pass ml_X0_50 (by with_reducible assumption) (by decide) rfl rfl rfl (Nat.le_of_ble_eq_true rfl) dX0_walkHome_23 (by decide) (fun r_23 M_23 h_23 => ?_)
      obtain ⟨e_23, rfl⟩ := h_23
      replace e_23 := Eq.symm e_23
      subst e_23
      refine z_pop F dX0_walkHome_26 rfl ?_
      refine z_iincc (c := 1) (lv' := [_, _]) F dX0_walkHome_27 rfl (by decide) (by decide) rfl rfl ?_
      refine z_goto (tgt := 8) F dX0_walkHome_30 (by decide) ?_
      simp only [qt, q0, q1, q12, qr, zt_zt]
      exact ih2
  have k0 := key (12 - a) a (M.1 (f + 15), M.1 (f + 15 + 1) 0) (by omega) hs1
  rw [zt_self, ← ha] at k0
  refine z_aload_n F dX0_walkHome_0 rfl ?_
  refine zg_X0_trip F (by with_reducible assumption) fl_X0_21 dX0_walkHome_1 (fun hk_1 => ?_)
  refine zg_X5_ahead F (by with_reducible assumption) fl_X0_47 dX0_walkHome_4 ?_
  refine z_istore_n (lv' := [_, _]) F dX0_walkHome_7 (by decide) rfl rfl ?_
  exact k0
end
section
/-- nothing but the foretelling's own blocks differs -/
def zfr (M M' : zM) : Prop := M'.2 = M.2 ∧ ∀ b, (b < 87 ∨ 129 ≤ b) → M'.1 b = M.1 b
theorem zfr.rf (M : zM) : zfr M M := ⟨rfl, fun _ _ => rfl⟩
theorem zfr.tr {M M' M2 : zM} (h : zfr M M') (h2 : zfr M' M2) : zfr M M2 := ⟨h2.1.trans h.1, fun b q => (h2.2 b q).trans (h.2 b q)⟩
theorem zfr.a {M M' : zM} {b : Nat} {f : zF1} (h : zfr M M') (hb : 87 ≤ b ∧ b < 129) : zfr M (za M' b f) := ⟨h.1, fun c q => (za_off _ (by omega)).trans (h.2 c q)⟩
theorem zfr.s {M M' : zM} {b o : Nat} {v : Int32} (h : zfr M M') (hb : 87 ≤ b ∧ b < 129) : zfr M (zs M' b o v) := h.a hb
theorem zfr.t {M M' : zM} {t : Nat} {T : zF1} {rf : Int32} (h : zfr M M') (hb : 87 ≤ t ∧ t + 1 < 129) : zfr M (zt M' t T rf) := ((h.a (by omega)).a (by omega))
theorem zfr.beg {M M' : zM} {f n : Nat} (h : zfr M M') (hf : f = 87) : zfr M (zbeg M' f n) := by
  unfold zbeg zrd
  exact (((h.a (by omega)).a (by omega)).a (by omega)).t (by omega)
theorem zbeg_rb (M : zM) (f n : Nat) : (zbeg M f n).1 (f + 1) = M.1 (n + 1) := by unfold zbeg zrd; rw [zt_off (by omega) (by omega), za_at]
theorem zbeg_th (M : zM) (f n : Nat) : (zbeg M f n).1 (f + 1 + 1) = M.1 (n + 1 + 1) := by unfold zbeg zrd; rw [zt_off (by omega) (by omega), za_off _ (by omega), za_off _ (by omega), za_at]
theorem zbeg_pe (M : zM) (f n : Nat) : (zbeg M f n).1 (f + 1 + 12) = M.1 (n + 1 + 12) := by unfold zbeg zrd; rw [zt_off (by omega) (by omega), za_off _ (by omega), za_at]
theorem zbeg_T (M : zM) (f n : Nat) : (zbeg M f n).1 (f + 15) = M.1 (n + 15) := by unfold zbeg; rw [zt_t]
theorem zbeg_r (M : zM) (f n : Nat) : (zbeg M f n).1 (f + 15 + 1) 0 = -4 := by unfold zbeg; rw [zt_r, va_up_self]
theorem zbeg_off (M : zM) {f n b : Nat} (h : b < f + 1 ∨ f + 17 ≤ b) : (zbeg M f n).1 b = M.1 b := by unfold zbeg zrd; rw [zt_off (by omega) (by omega), za_off _ (by omega), za_off _ (by omega), za_off _ (by omega)]
/-- his way home as it is now -/
def hmF (M : zM) (n np a : Nat) : zF1 × Int32 := homeF (M.1 (n + 1)) (M.1 (n + 1 + 1)) (M.1 (n + 1 + 12)) np (12 - a) (M.1 (n + 15), -4)
/-- what holds of the now that is foretold from -/
def nowOK (M : zM) (n np a : Nat) : Prop := M.1 (n + 1) 0 ≤ 10 ∧ M.1 (n + 1) 1 = nI np ∧ np ≤ 8 ∧ M.1 (n + 15) 3 = nI a ∧ a ≤ 12
theorem nowOK.fr {M M' : zM} {n np a : Nat} (h : nowOK M n np a) (hf : zfr M M') (hn : n = 1) : nowOK M' n np a := by
  unfold nowOK at *
  rw [hf.2 (n + 1) (by omega), hf.2 (n + 15) (by omega)]
  exact h
theorem c_X0_endOf {l : Launch} {w : zE} (J : zJ w) {M : zM} {f n np a : Nat} (hk : zk f = 0) (hn : zk n = 6) (hf : f = 87) (hn1 : n = 1) (ok : nowOK M n np a) : zCr l w yX0_endOf cX0_endOf 2 (some (.object "GladRoad$Trip")) 5 [.ref (w.2.2 f), .ref (w.2.2 n)] M (fun r M2 => r = f + 15 ∧ zfr M M2 ∧ M2.1 (f + 15) = (hmF M n np a).1 ∧ M2.1 (f + 15 + 1) 0 = (hmF M n np a).2) := by
  refine zCr_of J zm_X0_endOf [some (.ref (w.2.2 f)), some (.ref (w.2.2 n))] (Nat.le_of_ble_eq_true rfl) rfl (fun g hg F X => ?_)
  subst hg
  refine z_aload_n F dX0_endOf_0 rfl ?_
  refine z_aload_n F dX0_endOf_1 rfl ?_
  refine z_callVv F (c_X0_begin J hk hn hf hn1) zm_X0_begin zv_X0_begin ml_X0_54 (by with_reducible assumption) (by decide) rfl rfl rfl (Nat.le_of_ble_eq_true rfl) dX0_endOf_2 (by decide) (fun M_2 h_2 => ?_)
  replace h_2 := Eq.symm h_2
  subst h_2
  refine z_aload_n F dX0_endOf_5 rfl ?_
  refine z_callVv F (c_X0_walkHome J hk (by rw [zbeg_rb]; exact ok.1) (np := np) (by rw [zbeg_rb]; exact ok.2.1) (by have := ok.2.2.1; omega) (a := a) (by rw [zbeg_T]; exact ok.2.2.2.1) ok.2.2.2.2) zm_X0_walkHome zv_X0_walkHome ml_X0_58 (by with_reducible assumption) (by decide) rfl rfl rfl (Nat.le_of_ble_eq_true rfl) dX0_endOf_6 (by decide) (fun M_6 h_6 => ?_)
  replace h_6 := Eq.symm h_6
  subst h_6
  refine z_aload_n F dX0_endOf_9 rfl ?_
  refine zg_X0_trip F (by with_reducible assumption) fl_X0_21 dX0_endOf_10 (fun hk_10 => ?_)
  refine z_aret F X dX0_endOf_13 ?_
  refine ⟨rfl, ((zfr.rf M).beg hf).t (by omega), ?_, ?_⟩
  · rw [zt_t, zbeg_rb, zbeg_th, zbeg_pe, zbeg_T, zbeg_r]; rfl
  · rw [zt_r, va_up_self, zbeg_rb, zbeg_th, zbeg_pe, zbeg_T, zbeg_r]; rfl
/-- the heed by which he is cheated of most -/
def heedL (W : Nat → Int32) (v : Int32) : Nat → Nat → Int32 × Int32 → Int32 × Int32
  | 0, _, s => s
  | j + 1, h, s => heedL W v j (h + 1) (if W h ≤ v ∧ (s.1 = -4 ∨ s.2 < W h) then (nI h, W h) else s)
def heedW (rb th pe : zF1) (np a : Nat) (T : zF1) (h : Nat) : Int32 := worthO th (rb 0) (T 0) - worthO th (rb 0) ((homeF (va_up rb 2 (nI h)) th pe np (12 - a) (T, -4)).1 0)
theorem c_X0_heedFor {l : Launch} {w : zE} (J : zJ w) {M : zM} {f n np a : Nat} {v : Int32} (hk : zk f = 0) (hn : zk n = 6) (hf : f = 87) (hn1 : n = 1) (ok : nowOK M n np a) : zCi l w yX0_heedFor cX0_heedFor 7 (some .int) 5 [.ref (w.2.2 f), .int v, .ref (w.2.2 n)] M (fun r M2 => zfr M M2 ∧ r = (heedL (heedW (M.1 (n + 1)) (M.1 (n + 1 + 1)) (M.1 (n + 1 + 12)) np a (M.1 (n + 15))) v 100 0 (-4, 0)).1) := by
  obtain ⟨k1, k15, k17, k19⟩ := zkf0 f (zk_i hk (by decide)) hk
  refine zCi_of J zm_X0_heedFor [some (.ref (w.2.2 f)), some (.int v), some (.ref (w.2.2 n)), none, none, none, none] (Nat.le_of_ble_eq_true rfl) rfl (fun g hg F X => ?_)
  subst hg
  generalize hW : heedW (M.1 (n + 1)) (M.1 (n + 1 + 1)) (M.1 (n + 1 + 12)) np a (M.1 (n + 15)) = W at X
  generalize hr : (heedL W v 100 0 (-4, 0)).1 = r at X
  have key : ∀ (j k : Nat) (s : Int32 × Int32) (x6 : Option Value) (M' : zM), k + j = 100 → zok [none, none, none, none, none, none, x6] 6 = true → zfr M M' → (heedL W v j k s).1 = r → ZW w g 7 9 [some (.ref (w.2.2 f)), some (.int v), some (.ref (w.2.2 n)), some (.int s.1), some (.int s.2), some (.int (nI k)), x6] [] M' := by
    intro j
    induction j with
    | zero =>
      intro k s x6 M' hkj hok hfr hs
      have hkn : k = 100 := by omega
      subst hkn
      refine z_iload F dX0_heedFor_9 rfl ?_
      refine z_bipush (v := 99) F dX0_heedFor_11 (by decide) ?_
      refine z_ic_gt (tgt := 97) F dX0_heedFor_13 (by decide) (fun h_13 => ?_) (fun h_13 => absurd h_13 (by decide))
      refine z_iload_n F dX0_heedFor_97 rfl ?_
      refine z_iret F X dX0_heedFor_98 ?_
      exact ⟨hfr, hs⟩
    | succ j ih =>
      intro k s x6 M' hkj hok hfr hs
      have ok' := ok.fr hfr hn1
      have e1 := hfr.2 (n + 1) (by omega)
      have e2 := hfr.2 (n + 1 + 1) (by omega)
      have e3 := hfr.2 (n + 1 + 12) (by omega)
      have e4 := hfr.2 (n + 15) (by omega)
      have hWk : W k = worthO (M.1 (n + 1 + 1)) (M.1 (n + 1) 0) (M.1 (n + 15) 0) - worthO (M.1 (n + 1 + 1)) (M.1 (n + 1) 0) ((homeF (va_up (M.1 (n + 1)) 2 (nI k)) (M.1 (n + 1 + 1)) (M.1 (n + 1 + 12)) np (12 - a) (M.1 (n + 15), -4)).1 0) := by rw [← hW]; rfl
      have q1 : (zs (zbeg M' f n) (f + 1) 2 (nI k)).1 (f + 1) = va_up (M.1 (n + 1)) 2 (nI k) := by rw [zs_at, zbeg_rb, e1]
      have q2 : (zs (zbeg M' f n) (f + 1) 2 (nI k)).1 (f + 1 + 1) = M.1 (n + 1 + 1) := by rw [zs_off _ (by omega), zbeg_th, e2]
      have q3 : (zs (zbeg M' f n) (f + 1) 2 (nI k)).1 (f + 1 + 12) = M.1 (n + 1 + 12) := by rw [zs_off _ (by omega), zbeg_pe, e3]
      have q4 : (zs (zbeg M' f n) (f + 1) 2 (nI k)).1 (f + 15) = M.1 (n + 15) := by rw [zs_off _ (by omega), zbeg_T, e4]
      have q5 : (zs (zbeg M' f n) (f + 1) 2 (nI k)).1 (f + 15 + 1) 0 = -4 := by rw [zs_off _ (by omega), zbeg_r]
      have q6 : zfr M (zs (zbeg M' f n) (f + 1) 2 (nI k)) := (hfr.beg hf).s (by omega)
      refine z_iload F dX0_heedFor_9 rfl ?_
      refine z_bipush (v := 99) F dX0_heedFor_11 (by decide) ?_
      refine z_ic_gt (tgt := 97) F dX0_heedFor_13 (by decide) (fun h_13 => absurd h_13 (Int32.not_lt.mpr (nI_le (b := 99) (by omega) (by decide)))) (fun h_13 => ?_)
      refine z_aload_n F dX0_heedFor_16 rfl ?_
      refine z_aload_n F dX0_heedFor_17 rfl ?_
      refine z_callVv F (c_X0_begin J hk hn hf hn1) zm_X0_begin zv_X0_begin ml_X0_54 (by with_reducible assumption) (by decide) rfl rfl rfl (Nat.le_of_ble_eq_true rfl) dX0_heedFor_18 (by decide) (fun M_18 h_18 => ?_)
      replace h_18 := Eq.symm h_18
      subst h_18
      refine z_aload_n F dX0_heedFor_21 rfl ?_
      refine zg_X0_road F (by with_reducible assumption) fl_X0_12 dX0_heedFor_22 (fun hk_22 => ?_)
      refine z_iload F dX0_heedFor_25 rfl ?_
      refine zp_X1_heed F (by with_reducible assumption) fl_X0_92 dX0_heedFor_27 ?_
      generalize zs (zbeg M' f n) (f + 1) 2 (nI k) = M1 at q1 q2 q3 q4 q5 q6 ⊢
      have g1 : ∀ T rf, (zt M1 (f + 15) T rf).1 (f + 1) = va_up (M.1 (n + 1)) 2 (nI k) := fun T rf => by rw [zt_off (by omega) (by omega), q1]
      have g2 : ∀ T rf, (zt M1 (f + 15) T rf).1 (f + 1 + 1) = M.1 (n + 1 + 1) := fun T rf => by rw [zt_off (by omega) (by omega), q2]
      have g4 : ∀ T rf, (zt M1 (f + 15) T rf).1 (n + 15) = M.1 (n + 15) := fun T rf => by rw [zt_off (by omega) (by omega), q6.2 _ (by omega)]
      have g5 : ∀ T rf, (zt M1 (f + 15) T rf).1 (f + 15) = T := zt_t M1 (f + 15)
      refine z_aload_n F dX0_heedFor_30 rfl ?_
      refine z_callVv F (c_X0_walkHome J hk (by rw [q1, va_up_ne _ _ (by decide)]; exact ok.1) (np := np) (by rw [q1, va_up_ne _ _ (by decide)]; exact ok.2.1) (by have := ok.2.2.1; omega) (a := a) (by rw [q4]; exact ok.2.2.2.1) ok.2.2.2.2) zm_X0_walkHome zv_X0_walkHome ml_X0_58 (by with_reducible assumption) (by decide) rfl rfl rfl (Nat.le_of_ble_eq_true rfl) dX0_heedFor_31 (by decide) (fun M_31 h_31 => ?_)
      replace h_31 := Eq.symm h_31
      subst h_31
      refine z_aload_n F dX0_heedFor_34 rfl ?_
      refine zg_X0_road F (by with_reducible assumption) fl_X0_12 dX0_heedFor_35 (fun hk_35 => ?_)
      refine z_aload_n F dX0_heedFor_38 rfl ?_
      refine zg_X6_trip F (by with_reducible assumption) fl_X0_39 dX0_heedFor_39 (fun hk_39 => ?_)
      refine zg_X5_his F (by with_reducible assumption) fl_X0_89 dX0_heedFor_42 ?_
      try simp only [g4, g5]
      refine z_callVi F (c_X1_worthOf J (by with_reducible assumption) (by rw [g1, va_up_ne _ _ (by decide)]; exact ok.1)) zm_X1_worthOf zv_X1_worthOf ml_X0_64 (by with_reducible assumption) (by decide) rfl rfl rfl (Nat.le_of_ble_eq_true rfl) dX0_heedFor_45 (by decide) (fun r_45 M_45 h_45 => ?_)
      obtain ⟨e_45, rfl⟩ := h_45
      replace e_45 := Eq.symm e_45
      subst e_45
      refine z_aload_n F dX0_heedFor_48 rfl ?_
      refine zg_X0_road F (by with_reducible assumption) fl_X0_12 dX0_heedFor_49 (fun hk_49 => ?_)
      refine z_aload_n F dX0_heedFor_52 rfl ?_
      refine zg_X0_trip F (by with_reducible assumption) fl_X0_21 dX0_heedFor_53 (fun hk_53 => ?_)
      refine zg_X5_his F (by with_reducible assumption) fl_X0_89 dX0_heedFor_56 ?_
      try simp only [g4, g5]
      refine z_callVi F (c_X1_worthOf J (by with_reducible assumption) (by rw [g1, va_up_ne _ _ (by decide)]; exact ok.1)) zm_X1_worthOf zv_X1_worthOf ml_X0_64 (by with_reducible assumption) (by decide) rfl rfl rfl (Nat.le_of_ble_eq_true rfl) dX0_heedFor_59 (by decide) (fun r_59 M_59 h_59 => ?_)
      obtain ⟨e_59, rfl⟩ := h_59
      replace e_59 := Eq.symm e_59
      subst e_59
      refine z_isub F dX0_heedFor_62 ?_
      simp only [g1, g2, q1, q2, q3, q4, q5, va_up_ne _ _ (show (0 : Nat) ≠ 2 by decide), ← hWk]
      refine z_istore (lv' := [_, _, _, _, _, _, _]) F dX0_heedFor_63 (by decide) rfl rfl ?_
      refine z_iload F dX0_heedFor_65 rfl ?_
      refine z_iload_n F dX0_heedFor_67 rfl ?_
      refine z_ic_gt (tgt := 91) F dX0_heedFor_68 (by decide) (fun h_68 => ?_) (fun h_68 => ?_)
      · try simp only [g4, g5] at h_68
        refine z_iincc (c := 1) (lv' := [_, _, _, _, _, _, _]) F dX0_heedFor_91 rfl (by decide) (by decide) rfl rfl ?_
        refine z_goto (tgt := 9) F dX0_heedFor_94 (by decide) ?_
        rw [nI_1]
        rw [heedL] at hs
        first
          | exact ih (k + 1) s _ _ (by omega) rfl (q6.t (by omega)) ((congrArg (fun x => (heedL W v j (k + 1) x).1) (if_neg (by first | exact fun q => nle h_68 q.1 | exact fun q => q.2.elim h_74 (nlt h_81))).symm).trans hs)
          | exact ih (k + 1) (nI k, W k) _ _ (by omega) rfl (q6.t (by omega)) ((congrArg (fun x => (heedL W v j (k + 1) x).1) (if_pos (by first | exact ⟨h_68, Or.inl h_74⟩ | exact ⟨h_68, Or.inr h_81⟩)).symm).trans hs)
      · try simp only [g4, g5] at h_68
        refine z_iload_n F dX0_heedFor_71 rfl ?_
        refine z_bipush (v := (-4)) F dX0_heedFor_72 (by decide) ?_
        refine z_ic_eq (tgt := 84) F dX0_heedFor_74 (by decide) (fun h_74 => ?_) (fun h_74 => ?_)
        · try simp only [g4, g5] at h_74
          refine z_iload F dX0_heedFor_84 rfl ?_
          refine z_istore_n (lv' := [_, _, _, _, _, _, _]) F dX0_heedFor_86 (by decide) rfl rfl ?_
          refine z_iload F dX0_heedFor_87 rfl ?_
          refine z_istore (lv' := [_, _, _, _, _, _, _]) F dX0_heedFor_89 (by decide) rfl rfl ?_
          refine z_iincc (c := 1) (lv' := [_, _, _, _, _, _, _]) F dX0_heedFor_91 rfl (by decide) (by decide) rfl rfl ?_
          refine z_goto (tgt := 9) F dX0_heedFor_94 (by decide) ?_
          rw [nI_1]
          rw [heedL] at hs
          first
            | exact ih (k + 1) s _ _ (by omega) rfl (q6.t (by omega)) ((congrArg (fun x => (heedL W v j (k + 1) x).1) (if_neg (by first | exact fun q => nle h_68 q.1 | exact fun q => q.2.elim h_74 (nlt h_81))).symm).trans hs)
            | exact ih (k + 1) (nI k, W k) _ _ (by omega) rfl (q6.t (by omega)) ((congrArg (fun x => (heedL W v j (k + 1) x).1) (if_pos (by first | exact ⟨h_68, Or.inl h_74⟩ | exact ⟨h_68, Or.inr h_81⟩)).symm).trans hs)
        · try simp only [g4, g5] at h_74
          refine z_iload F dX0_heedFor_77 rfl ?_
          refine z_iload F dX0_heedFor_79 rfl ?_
          refine z_ic_le (tgt := 91) F dX0_heedFor_81 (by decide) (fun h_81 => ?_) (fun h_81 => ?_)
          · try simp only [g4, g5] at h_81
            refine z_iincc (c := 1) (lv' := [_, _, _, _, _, _, _]) F dX0_heedFor_91 rfl (by decide) (by decide) rfl rfl ?_
            refine z_goto (tgt := 9) F dX0_heedFor_94 (by decide) ?_
            rw [nI_1]
            rw [heedL] at hs
            first
              | exact ih (k + 1) s _ _ (by omega) rfl (q6.t (by omega)) ((congrArg (fun x => (heedL W v j (k + 1) x).1) (if_neg (by first | exact fun q => nle h_68 q.1 | exact fun q => q.2.elim h_74 (nlt h_81))).symm).trans hs)
              | exact ih (k + 1) (nI k, W k) _ _ (by omega) rfl (q6.t (by omega)) ((congrArg (fun x => (heedL W v j (k + 1) x).1) (if_pos (by first | exact ⟨h_68, Or.inl h_74⟩ | exact ⟨h_68, Or.inr h_81⟩)).symm).trans hs)
          · try simp only [g4, g5] at h_81
            refine z_iload F dX0_heedFor_84 rfl ?_
            refine z_istore_n (lv' := [_, _, _, _, _, _, _]) F dX0_heedFor_86 (by decide) rfl rfl ?_
            refine z_iload F dX0_heedFor_87 rfl ?_
            refine z_istore (lv' := [_, _, _, _, _, _, _]) F dX0_heedFor_89 (by decide) rfl rfl ?_
            refine z_iincc (c := 1) (lv' := [_, _, _, _, _, _, _]) F dX0_heedFor_91 rfl (by decide) (by decide) rfl rfl ?_
            refine z_goto (tgt := 9) F dX0_heedFor_94 (by decide) ?_
            rw [nI_1]
            rw [heedL] at hs
            first
              | exact ih (k + 1) s _ _ (by omega) rfl (q6.t (by omega)) ((congrArg (fun x => (heedL W v j (k + 1) x).1) (if_neg (by first | exact fun q => nle h_68 q.1 | exact fun q => q.2.elim h_74 (nlt h_81))).symm).trans hs)
              | exact ih (k + 1) (nI k, W k) _ _ (by omega) rfl (q6.t (by omega)) ((congrArg (fun x => (heedL W v j (k + 1) x).1) (if_pos (by first | exact ⟨h_68, Or.inl h_74⟩ | exact ⟨h_68, Or.inr h_81⟩)).symm).trans hs)
  refine z_bipush (v := (-4)) F dX0_heedFor_0 (by decide) ?_
  refine z_istore_n (lv' := [_, _, _, _, _, _, _]) F dX0_heedFor_2 (by decide) rfl rfl ?_
  refine z_iconst (v := 0) F dX0_heedFor_3 (by decide) ?_
  refine z_istore (lv' := [_, _, _, _, _, _, _]) F dX0_heedFor_4 (by decide) rfl rfl ?_
  refine z_iconst (v := 0) F dX0_heedFor_6 (by decide) ?_
  refine z_istore (lv' := [_, _, _, _, _, _, _]) F dX0_heedFor_7 (by decide) rfl rfl ?_
  exact key 100 0 (-4, 0) none M (by omega) rfl (zfr.rf M) hr
end
section
theorem zfr_5 {M M' : zM} {n : Nat} (h : zfr M M') (hn : n = 1) : M'.1 (n + 1) = M.1 (n + 1) ∧ M'.1 (n + 1 + 1) = M.1 (n + 1 + 1) ∧ M'.1 (n + 1 + 12) = M.1 (n + 1 + 12) ∧ M'.1 (n + 15) = M.1 (n + 15) := ⟨h.2 _ (by omega), h.2 _ (by omega), h.2 _ (by omega), h.2 _ (by omega)⟩
/-- which things could have been his first -/
def firstL (V Q : Nat → Int32) (x : Int32) : Nat → Nat → Int32 → Int32
  | 0, _, s => s
  | j + 1, k, s => firstL V Q x j (k + 1) (if V k = -4 ∧ Q k = x then s ||| (1 <<< (nI k &&& 31)) else s)
def firstQ (rb th pe : zF1) (np a : Nat) (T : zF1) (k : Nat) : Int32 := (homeF rb th pe np (12 - a) (va_up T 0 (nI k), -4)).1 0
theorem c_X0_firstsFor {l : Launch} {w : zE} (J : zJ w) {M : zM} {f n np a nt : Nat} {x : Int32} (hk : zk f = 0) (hn : zk n = 6) (hf : f = 87) (hn1 : n = 1) (ok : nowOK M n np a) (hnt : M.1 (n + 1) 0 = nI nt) (hnt10 : nt ≤ 10) : zCi l w yX0_firstsFor cX0_firstsFor 5 (some .int) 5 [.ref (w.2.2 f), .int x, .ref (w.2.2 n)] M (fun r M2 => zfr M M2 ∧ r = firstL (fun k => whoF (M.1 (n + 15)) np (nI k)) (firstQ (M.1 (n + 1)) (M.1 (n + 1 + 1)) (M.1 (n + 1 + 12)) np a (M.1 (n + 15))) x nt 0 0) := by
  obtain ⟨k1, k15, k17, k19⟩ := zkf0 f (zk_i hk (by decide)) hk
  refine zCi_of J zm_X0_firstsFor [some (.ref (w.2.2 f)), some (.int x), some (.ref (w.2.2 n)), none, none] (Nat.le_of_ble_eq_true rfl) rfl (fun g hg F X => ?_)
  subst hg
  generalize hV : (fun k => whoF (M.1 (n + 15)) np (nI k)) = V at X
  generalize hQ : firstQ (M.1 (n + 1)) (M.1 (n + 1 + 1)) (M.1 (n + 1 + 12)) np a (M.1 (n + 15)) = Q at X
  generalize hr : firstL V Q x nt 0 0 = r at X
  have key : ∀ (j k : Nat) (s : Int32) (M' : zM), k + j = nt → zfr M M' → firstL V Q x j k s = r → ZW w g 5 5 [some (.ref (w.2.2 f)), some (.int x), some (.ref (w.2.2 n)), some (.int s), some (.int (nI k))] [] M' := by
    intro j
    induction j with
    | zero =>
      intro k s M' hkj hfr hs
      obtain ⟨e1, e2, e3, e4⟩ := zfr_5 hfr hn1
      refine z_iload F dX0_firstsFor_5 rfl ?_
      refine z_aload_n F dX0_firstsFor_7 rfl ?_
      refine zg_X6_road F (by with_reducible assumption) fl_X0_32 dX0_firstsFor_8 (fun hk_8 => ?_)
      refine zg_X1_thingCount F (by with_reducible assumption) fl_X0_61 dX0_firstsFor_11 ?_
      try simp only [e1, e4]
      refine z_ic_ge (tgt := 80) F dX0_firstsFor_14 (by decide) (fun h_14 => ?_) (fun h_14 => absurd h_14 (Int32.not_lt.mpr (by rw [hnt]; exact nI_le (by omega) (by omega))))
      refine z_iload_n F dX0_firstsFor_80 rfl ?_
      refine z_iret F X dX0_firstsFor_81 ?_
      exact ⟨hfr, hs⟩
    | succ j ih =>
      intro k s M' hkj hfr hs
      obtain ⟨e1, e2, e3, e4⟩ := zfr_5 hfr hn1
      have hVk : V k = whoF (M.1 (n + 15)) np (nI k) := by rw [← hV]
      have hQk : Q k = (homeF (M.1 (n + 1)) (M.1 (n + 1 + 1)) (M.1 (n + 1 + 12)) np (12 - a) (va_up (M.1 (n + 15)) 0 (nI k), -4)).1 0 := by rw [← hQ]; rfl
      have q1 : (zs (zbeg M' f n) (f + 15) 0 (nI k)).1 (f + 1) = M.1 (n + 1) := by rw [zs_off _ (by omega), zbeg_rb, e1]
      have q2 : (zs (zbeg M' f n) (f + 15) 0 (nI k)).1 (f + 1 + 1) = M.1 (n + 1 + 1) := by rw [zs_off _ (by omega), zbeg_th, e2]
      have q3 : (zs (zbeg M' f n) (f + 15) 0 (nI k)).1 (f + 1 + 12) = M.1 (n + 1 + 12) := by rw [zs_off _ (by omega), zbeg_pe, e3]
      have q4 : (zs (zbeg M' f n) (f + 15) 0 (nI k)).1 (f + 15) = va_up (M.1 (n + 15)) 0 (nI k) := by rw [zs_at, zbeg_T, e4]
      have q5 : (zs (zbeg M' f n) (f + 15) 0 (nI k)).1 (f + 15 + 1) 0 = -4 := by rw [zs_off _ (by omega), zbeg_r]
      have q6 : zfr M (zs (zbeg M' f n) (f + 15) 0 (nI k)) := (hfr.beg hf).s (by omega)
      refine z_iload F dX0_firstsFor_5 rfl ?_
      refine z_aload_n F dX0_firstsFor_7 rfl ?_
      refine zg_X6_road F (by with_reducible assumption) fl_X0_32 dX0_firstsFor_8 (fun hk_8 => ?_)
      refine zg_X1_thingCount F (by with_reducible assumption) fl_X0_61 dX0_firstsFor_11 ?_
      try simp only [e1, e4, zt_t, q1, q2, q3, q4, q5, ← hQk, ← hVk]
      refine z_ic_ge (tgt := 80) F dX0_firstsFor_14 (by decide) (fun h_14 => absurd h_14 (Int32.not_le.mpr (by rw [hnt]; exact nI_lt (by omega) (by omega)))) (fun h_14 => ?_)
      refine z_aload_n F dX0_firstsFor_17 rfl ?_
      refine zg_X6_road F (by with_reducible assumption) fl_X0_32 dX0_firstsFor_18 (fun hk_18 => ?_)
      refine z_iload F dX0_firstsFor_21 rfl ?_
      refine z_aload_n F dX0_firstsFor_23 rfl ?_
      refine zg_X6_trip F (by with_reducible assumption) fl_X0_39 dX0_firstsFor_24 (fun hk_24 => ?_)
      refine z_callVi F (c_X1_whoHas J (by with_reducible assumption) (by with_reducible assumption) (np := np) (by rw [e1]; exact ok.2.1) (by have := ok.2.2.1; omega)) zm_X1_whoHas zv_X1_whoHas ml_X0_68 (by with_reducible assumption) (by decide) rfl rfl rfl (Nat.le_of_ble_eq_true rfl) dX0_firstsFor_27 (by decide) (fun r_27 M_27 h_27 => ?_)
      obtain ⟨e_27, rfl⟩ := h_27
      replace e_27 := Eq.symm e_27
      subst e_27
      refine z_bipush (v := (-4)) F dX0_firstsFor_30 (by decide) ?_
      refine z_ic_eq (tgt := 38) F dX0_firstsFor_32 (by decide) (fun h_32 => ?_) (fun h_32 => ?_)
      · try simp only [e1, e4, zt_t, q1, q2, q3, q4, q5, ← hQk, ← hVk] at h_32
        refine z_aload_n F dX0_firstsFor_38 rfl ?_
        refine z_aload_n F dX0_firstsFor_39 rfl ?_
        refine z_callVv F (c_X0_begin J hk hn hf hn1) zm_X0_begin zv_X0_begin ml_X0_54 (by with_reducible assumption) (by decide) rfl rfl rfl (Nat.le_of_ble_eq_true rfl) dX0_firstsFor_40 (by decide) (fun M_40 h_40 => ?_)
        replace h_40 := Eq.symm h_40
        subst h_40
        refine z_aload_n F dX0_firstsFor_43 rfl ?_
        refine zg_X0_trip F (by with_reducible assumption) fl_X0_21 dX0_firstsFor_44 (fun hk_44 => ?_)
        refine z_iload F dX0_firstsFor_47 rfl ?_
        refine zp_X5_his F (by with_reducible assumption) fl_X0_89 dX0_firstsFor_49 ?_
        refine z_aload_n F dX0_firstsFor_52 rfl ?_
        refine z_callVv F (c_X0_walkHome J hk (by rw [q1]; exact ok.1) (np := np) (by rw [q1]; exact ok.2.1) (by have := ok.2.2.1; omega) (a := a) (by rw [q4, va_up_ne _ _ (by decide)]; exact ok.2.2.2.1) ok.2.2.2.2) zm_X0_walkHome zv_X0_walkHome ml_X0_58 (by with_reducible assumption) (by decide) rfl rfl rfl (Nat.le_of_ble_eq_true rfl) dX0_firstsFor_53 (by decide) (fun M_53 h_53 => ?_)
        replace h_53 := Eq.symm h_53
        subst h_53
        refine z_aload_n F dX0_firstsFor_56 rfl ?_
        refine zg_X0_trip F (by with_reducible assumption) fl_X0_21 dX0_firstsFor_57 (fun hk_57 => ?_)
        refine zg_X5_his F (by with_reducible assumption) fl_X0_89 dX0_firstsFor_60 ?_
        try simp only [e1, e4, zt_t, q1, q2, q3, q4, q5, ← hQk, ← hVk]
        refine z_iload_n F dX0_firstsFor_63 rfl ?_
        refine z_ic_ne (tgt := 74) F dX0_firstsFor_64 (by decide) (fun h_64 => ?_) (fun h_64 => ?_)
        · try simp only [e1, e4, zt_t, q1, q2, q3, q4, q5, ← hQk, ← hVk] at h_64
          refine z_iincc (c := 1) (lv' := [_, _, _, _, _]) F dX0_firstsFor_74 rfl (by decide) (by decide) rfl rfl ?_
          refine z_goto (tgt := 5) F dX0_firstsFor_77 (by decide) ?_
          rw [nI_1]
          rw [firstL] at hs
          first
            | exact ih (k + 1) s _ (by omega) hfr ((congrArg (fun z => firstL V Q x j (k + 1) z) (if_neg (fun q => h_32 q.1)).symm).trans hs)
            | exact ih (k + 1) s _ (by omega) (q6.t (by omega)) ((congrArg (fun z => firstL V Q x j (k + 1) z) (if_neg (fun q => h_64 q.2)).symm).trans hs)
            | exact ih (k + 1) (s ||| (1 <<< (nI k &&& 31))) _ (by omega) (q6.t (by omega)) ((congrArg (fun z => firstL V Q x j (k + 1) z) (if_pos ⟨h_32, h_64⟩).symm).trans hs)
        · try simp only [e1, e4, zt_t, q1, q2, q3, q4, q5, ← hQk, ← hVk] at h_64
          refine z_iload_n F dX0_firstsFor_67 rfl ?_
          refine z_iconst (v := 1) F dX0_firstsFor_68 (by decide) ?_
          refine z_iload F dX0_firstsFor_69 rfl ?_
          refine z_ishl F dX0_firstsFor_71 ?_
          refine z_ior F dX0_firstsFor_72 ?_
          refine z_istore_n (lv' := [_, _, _, _, _]) F dX0_firstsFor_73 (by decide) rfl rfl ?_
          refine z_iincc (c := 1) (lv' := [_, _, _, _, _]) F dX0_firstsFor_74 rfl (by decide) (by decide) rfl rfl ?_
          refine z_goto (tgt := 5) F dX0_firstsFor_77 (by decide) ?_
          rw [nI_1]
          rw [firstL] at hs
          first
            | exact ih (k + 1) s _ (by omega) hfr ((congrArg (fun z => firstL V Q x j (k + 1) z) (if_neg (fun q => h_32 q.1)).symm).trans hs)
            | exact ih (k + 1) s _ (by omega) (q6.t (by omega)) ((congrArg (fun z => firstL V Q x j (k + 1) z) (if_neg (fun q => h_64 q.2)).symm).trans hs)
            | exact ih (k + 1) (s ||| (1 <<< (nI k &&& 31))) _ (by omega) (q6.t (by omega)) ((congrArg (fun z => firstL V Q x j (k + 1) z) (if_pos ⟨h_32, h_64⟩).symm).trans hs)
      · try simp only [e1, e4, zt_t, q1, q2, q3, q4, q5, ← hQk, ← hVk] at h_32
        refine z_goto (tgt := 74) F dX0_firstsFor_35 (by decide) ?_
        refine z_iincc (c := 1) (lv' := [_, _, _, _, _]) F dX0_firstsFor_74 rfl (by decide) (by decide) rfl rfl ?_
        refine z_goto (tgt := 5) F dX0_firstsFor_77 (by decide) ?_
        rw [nI_1]
        rw [firstL] at hs
        first
          | exact ih (k + 1) s _ (by omega) hfr ((congrArg (fun z => firstL V Q x j (k + 1) z) (if_neg (fun q => h_32 q.1)).symm).trans hs)
          | exact ih (k + 1) s _ (by omega) (q6.t (by omega)) ((congrArg (fun z => firstL V Q x j (k + 1) z) (if_neg (fun q => h_64 q.2)).symm).trans hs)
          | exact ih (k + 1) (s ||| (1 <<< (nI k &&& 31))) _ (by omega) (q6.t (by omega)) ((congrArg (fun z => firstL V Q x j (k + 1) z) (if_pos ⟨h_32, h_64⟩).symm).trans hs)
  refine z_iconst (v := 0) F dX0_firstsFor_0 (by decide) ?_
  refine z_istore_n (lv' := [_, _, _, _, _]) F dX0_firstsFor_1 (by decide) rfl rfl ?_
  refine z_iconst (v := 0) F dX0_firstsFor_2 (by decide) ?_
  refine z_istore (lv' := [_, _, _, _, _]) F dX0_firstsFor_3 (by decide) rfl rfl ?_
  exact key nt 0 0 M (by omega) (zfr.rf M) hr
/-- where to stand for most -/
def standL (W : Nat → Int32) : Nat → Nat → Int32 × Int32 → Int32 × Int32
  | 0, _, s => s
  | j + 1, k, s => standL W j (k + 1) (if s.1 < W k then (W k, nI k) else s)
def standW (rb th pe : zF1) (np a : Nat) (T : zF1) (p k : Nat) : Int32 := worthO th (rb 0) ((homeF rb th (va_up pe (2 * p) (nI k)) np (12 - a) (T, -4)).1 (5 + p))
theorem c_X0_mostWorthOf {l : Launch} {w : zE} (J : zJ w) {M : zM} {f n np a p : Nat} (hk : zk f = 0) (hn : zk n = 6) (hf : f = 87) (hn1 : n = 1) (ok : nowOK M n np a) (hp : p < np) : zCi l w yX0_mostWorthOf cX0_mostWorthOf 6 (some .int) 5 [.ref (w.2.2 f), .int (nI p), .ref (w.2.2 n)] M (fun r M2 => zfr M M2 ∧ r = (standL (standW (M.1 (n + 1)) (M.1 (n + 1 + 1)) (M.1 (n + 1 + 12)) np a (M.1 (n + 15)) p) (12 - a) a (-1, M.1 f 4)).1 ∧ M2.1 f 4 = (standL (standW (M.1 (n + 1)) (M.1 (n + 1 + 1)) (M.1 (n + 1 + 12)) np a (M.1 (n + 15)) p) (12 - a) a (-1, M.1 f 4)).2) := by
  obtain ⟨k1, k15, k17, k19⟩ := zkf0 f (zk_i hk (by decide)) hk
  have hp8 : p < 8 := by have := ok.2.2.1; omega
  have hpin : vp_in (nI p) 9 := vp_in_nI (by omega) (by decide)
  have hpc : (nI p).toNatClampNeg = p := nI_clamp (by omega)
  refine zCi_of J zm_X0_mostWorthOf [some (.ref (w.2.2 f)), some (.int (nI p)), some (.ref (w.2.2 n)), none, none, none] (Nat.le_of_ble_eq_true rfl) rfl (fun g hg F X => ?_)
  subst hg
  generalize hW : standW (M.1 (n + 1)) (M.1 (n + 1 + 1)) (M.1 (n + 1 + 12)) np a (M.1 (n + 15)) p = W at X
  generalize hr : standL W (12 - a) a (-1, M.1 f 4) = r at X
  have key : ∀ (j k : Nat) (s : Int32 × Int32) (x5 : Option Value) (M' : zM), k + j = 12 → zok [none, none, none, none, none, x5] 5 = true → zfr M M' → M'.1 f 4 = s.2 → standL W j k s = r → ZW w g 6 11 [some (.ref (w.2.2 f)), some (.int (nI p)), some (.ref (w.2.2 n)), some (.int s.1), some (.int (nI k)), x5] [] M' := by
    intro j
    induction j with
    | zero =>
      intro k s x5 M' hkj hok hfr hm hs
      have hkn : k = 12 := by omega
      subst hkn
      have hs : s = r := hs
      subst hs
      refine z_iload F dX0_mostWorthOf_11 rfl ?_
      refine z_bipush (v := 12) F dX0_mostWorthOf_13 (by decide) ?_
      refine z_ic_ge (tgt := 77) F dX0_mostWorthOf_15 (by decide) (fun h_15 => ?_) (fun h_15 => absurd h_15 (by decide))
      refine z_iload_n F dX0_mostWorthOf_77 rfl ?_
      refine z_iret F X dX0_mostWorthOf_78 ?_
      exact ⟨hfr, rfl, hm⟩
    | succ j ih =>
      intro k s x5 M' hkj hok hfr hm hs
      obtain ⟨e1, e2, e3, e4⟩ := zfr_5 hfr hn1
      have hWk : W k = worthO (M.1 (n + 1 + 1)) (M.1 (n + 1) 0) ((homeF (M.1 (n + 1)) (M.1 (n + 1 + 1)) (va_up (M.1 (n + 1 + 12)) (2 * p) (nI k)) np (12 - a) (M.1 (n + 15), -4)).1 (5 + p)) := by rw [← hW]; rfl
      have q0 : (zs (zbeg M' f n) (f + 1 + 12) (2 * p) (nI k)).1 f 4 = s.2 := by rw [zs_off _ (by omega), zbeg_off _ (by omega), hm]
      have q1 : (zs (zbeg M' f n) (f + 1 + 12) (2 * p) (nI k)).1 (f + 1) = M.1 (n + 1) := by rw [zs_off _ (by omega), zbeg_rb, e1]
      have q2 : (zs (zbeg M' f n) (f + 1 + 12) (2 * p) (nI k)).1 (f + 1 + 1) = M.1 (n + 1 + 1) := by rw [zs_off _ (by omega), zbeg_th, e2]
      have q3 : (zs (zbeg M' f n) (f + 1 + 12) (2 * p) (nI k)).1 (f + 1 + 12) = va_up (M.1 (n + 1 + 12)) (2 * p) (nI k) := by rw [zs_at, zbeg_pe, e3]
      have q4 : (zs (zbeg M' f n) (f + 1 + 12) (2 * p) (nI k)).1 (f + 15) = M.1 (n + 15) := by rw [zs_off _ (by omega), zbeg_T, e4]
      have q5 : (zs (zbeg M' f n) (f + 1 + 12) (2 * p) (nI k)).1 (f + 15 + 1) 0 = -4 := by rw [zs_off _ (by omega), zbeg_r]
      have q6 : zfr M (zs (zbeg M' f n) (f + 1 + 12) (2 * p) (nI k)) := (hfr.beg hf).s (by omega)
      refine z_iload F dX0_mostWorthOf_11 rfl ?_
      refine z_bipush (v := 12) F dX0_mostWorthOf_13 (by decide) ?_
      refine z_ic_ge (tgt := 77) F dX0_mostWorthOf_15 (by decide) (fun h_15 => absurd h_15 (Int32.not_le.mpr (nI_lt (b := 12) (by omega) (by decide)))) (fun h_15 => ?_)
      refine z_aload_n F dX0_mostWorthOf_18 rfl ?_
      refine z_aload_n F dX0_mostWorthOf_19 rfl ?_
      refine z_callVv F (c_X0_begin J hk hn hf hn1) zm_X0_begin zv_X0_begin ml_X0_54 (by with_reducible assumption) (by decide) rfl rfl rfl (Nat.le_of_ble_eq_true rfl) dX0_mostWorthOf_20 (by decide) (fun M_20 h_20 => ?_)
      replace h_20 := Eq.symm h_20
      subst h_20
      refine z_aload_n F dX0_mostWorthOf_23 rfl ?_
      refine zg_X0_road F (by with_reducible assumption) fl_X0_12 dX0_mostWorthOf_24 (fun hk_24 => ?_)
      refine zg_X1_where F (by with_reducible assumption) fl_X0_83 dX0_mostWorthOf_27 (fun hk_27 => ?_)
      refine z_iload_n F dX0_mostWorthOf_30 rfl ?_
      refine z_iload F dX0_mostWorthOf_31 rfl ?_
      refine z_iast12 F (by with_reducible assumption) hpin dX0_mostWorthOf_33 ?_
      rw [hpc]
      generalize zs (zbeg M' f n) (f + 1 + 12) (2 * p) (nI k) = M1 at q0 q1 q2 q3 q4 q5 q6 ⊢
      have g0 : ∀ T rf, (zt M1 (f + 15) T rf).1 f 4 = s.2 := fun T rf => by rw [zt_off (by omega) (by omega), q0]
      have g1 : ∀ T rf, (zt M1 (f + 15) T rf).1 (f + 1) = M.1 (n + 1) := fun T rf => by rw [zt_off (by omega) (by omega), q1]
      have g2 : ∀ T rf, (zt M1 (f + 15) T rf).1 (f + 1 + 1) = M.1 (n + 1 + 1) := fun T rf => by rw [zt_off (by omega) (by omega), q2]
      refine z_aload_n F dX0_mostWorthOf_34 rfl ?_
      refine z_callVv F (c_X0_walkHome J hk (by rw [q1]; exact ok.1) (np := np) (by rw [q1]; exact ok.2.1) (by have := ok.2.2.1; omega) (a := a) (by rw [q4]; exact ok.2.2.2.1) ok.2.2.2.2) zm_X0_walkHome zv_X0_walkHome ml_X0_58 (by with_reducible assumption) (by decide) rfl rfl rfl (Nat.le_of_ble_eq_true rfl) dX0_mostWorthOf_35 (by decide) (fun M_35 h_35 => ?_)
      replace h_35 := Eq.symm h_35
      subst h_35
      refine z_aload_n F dX0_mostWorthOf_38 rfl ?_
      refine zg_X0_road F (by with_reducible assumption) fl_X0_12 dX0_mostWorthOf_39 (fun hk_39 => ?_)
      refine z_aload_n F dX0_mostWorthOf_42 rfl ?_
      refine zg_X0_trip F (by with_reducible assumption) fl_X0_21 dX0_mostWorthOf_43 (fun hk_43 => ?_)
      refine zg_X5_theirs F (by with_reducible assumption) fl_X0_76 dX0_mostWorthOf_46 (fun hk_46 => ?_)
      refine z_iload_n F dX0_mostWorthOf_49 rfl ?_
      refine z_iald11 F (by with_reducible assumption) hpin dX0_mostWorthOf_50 ?_
      try simp only [zt_t, hpc, q1, q2, q3, q4, q5]
      refine z_callVi F (c_X1_worthOf J (by with_reducible assumption) (by rw [g1]; exact ok.1)) zm_X1_worthOf zv_X1_worthOf ml_X0_64 (by with_reducible assumption) (by decide) rfl rfl rfl (Nat.le_of_ble_eq_true rfl) dX0_mostWorthOf_51 (by decide) (fun r_51 M_51 h_51 => ?_)
      obtain ⟨e_51, rfl⟩ := h_51
      replace e_51 := Eq.symm e_51
      subst e_51
      simp only [g1, g2, ← hWk]
      refine z_istore (lv' := [_, _, _, _, _, _]) F dX0_mostWorthOf_54 (by decide) rfl rfl ?_
      refine z_iload F dX0_mostWorthOf_56 rfl ?_
      refine z_iload_n F dX0_mostWorthOf_58 rfl ?_
      refine z_ic_le (tgt := 71) F dX0_mostWorthOf_59 (by decide) (fun h_59 => ?_) (fun h_59 => ?_)
      · try simp only [zt_t, hpc, q1, q2, q3, q4, q5] at h_59
        refine z_iincc (c := 1) (lv' := [_, _, _, _, _, _]) F dX0_mostWorthOf_71 rfl (by decide) (by decide) rfl rfl ?_
        refine z_goto (tgt := 11) F dX0_mostWorthOf_74 (by decide) ?_
        rw [nI_1]
        rw [standL] at hs
        first
          | exact ih (k + 1) s _ _ (by omega) rfl (q6.t (by omega)) (g0 _ _) ((congrArg (fun z => standL W j (k + 1) z) (if_neg (nlt h_59)).symm).trans hs)
          | exact ih (k + 1) (W k, nI k) _ _ (by omega) rfl ((q6.t (by omega)).s (by omega)) (by rw [zs_at, va_up_self]) ((congrArg (fun z => standL W j (k + 1) z) (if_pos h_59).symm).trans hs)
      · try simp only [zt_t, hpc, q1, q2, q3, q4, q5] at h_59
        refine z_iload F dX0_mostWorthOf_62 rfl ?_
        refine z_istore_n (lv' := [_, _, _, _, _, _]) F dX0_mostWorthOf_64 (by decide) rfl rfl ?_
        refine z_aload_n F dX0_mostWorthOf_65 rfl ?_
        refine z_iload F dX0_mostWorthOf_66 rfl ?_
        refine zp_X0_milestone F (by with_reducible assumption) fl_X0_80 dX0_mostWorthOf_68 ?_
        refine z_iincc (c := 1) (lv' := [_, _, _, _, _, _]) F dX0_mostWorthOf_71 rfl (by decide) (by decide) rfl rfl ?_
        refine z_goto (tgt := 11) F dX0_mostWorthOf_74 (by decide) ?_
        rw [nI_1]
        rw [standL] at hs
        first
          | exact ih (k + 1) s _ _ (by omega) rfl (q6.t (by omega)) (g0 _ _) ((congrArg (fun z => standL W j (k + 1) z) (if_neg (nlt h_59)).symm).trans hs)
          | exact ih (k + 1) (W k, nI k) _ _ (by omega) rfl ((q6.t (by omega)).s (by omega)) (by rw [zs_at, va_up_self]) ((congrArg (fun z => standL W j (k + 1) z) (if_pos h_59).symm).trans hs)
  have k0 := key (12 - a) a (-1, M.1 f 4) none M (by have := ok.2.2.2.2; omega) rfl (zfr.rf M) rfl hr
  rw [← ok.2.2.2.1] at k0
  refine z_iconst (v := (-1)) F dX0_mostWorthOf_0 (by decide) ?_
  refine z_istore_n (lv' := [_, _, _, _, _, _]) F dX0_mostWorthOf_1 (by decide) rfl rfl ?_
  refine z_aload_n F dX0_mostWorthOf_2 rfl ?_
  refine zg_X6_trip F (by with_reducible assumption) fl_X0_39 dX0_mostWorthOf_3 (fun hk_3 => ?_)
  refine zg_X5_ahead F (by with_reducible assumption) fl_X0_47 dX0_mostWorthOf_6 ?_
  refine z_istore (lv' := [_, _, _, _, _, _]) F dX0_mostWorthOf_9 (by decide) rfl rfl ?_
  exact k0
end
section
/-- a turn of two who meet: A's turn -/
def turnC (th : zF1) (hd : Int32) (A B : zF1) : Int32 := bI (gladF th 1 hd (feelF th 1 A) (B 0))
def turnA (th : zF1) (hd : Int32) (A B : zF1) : zF1 := if gladF th 1 hd (feelF th 1 A) (B 0) then va_up (va_up (feelF th 1 A) 0 (B 0)) 1 0 else feelF th 1 A
def turnB (th : zF1) (hd : Int32) (A B : zF1) : zF1 := if gladF th 1 hd (feelF th 1 A) (B 0) then va_up (va_up B 0 (A 0)) 1 0 else B
theorem feelF_0 (th : zF1) (c : Int32) (A : zF1) : feelF th c A 0 = A 0 := by unfold feelF; rw [va_up_ne _ _ (by decide), va_up_ne _ _ (by decide)]
theorem c_X0_takesTurn {l : Launch} {w : zE} (J : zJ w) {M : zM} {f t u : Nat} {hd : Int32} (hk : zk f = 0) (ht : zk t = 5) (hu : zk u = 5) (hne : u ≠ t) (h1 : 0 ≤ M.1 t 0 ∧ M.1 t 0 < 10) (h2 : 0 ≤ M.1 u 0 ∧ M.1 u 0 < 10) : zCi l w yX0_takesTurn cX0_takesTurn 5 (some .boolean) 2 [.ref (w.2.2 f), .ref (w.2.2 t), .ref (w.2.2 u), .int hd] M (fun r M2 => M2 = za (za M t (turnA (M.1 (f + 1 + 1)) hd (M.1 t) (M.1 u))) u (turnB (M.1 (f + 1 + 1)) hd (M.1 t) (M.1 u)) ∧ r = turnC (M.1 (f + 1 + 1)) hd (M.1 t) (M.1 u)) := by
  obtain ⟨k1, k15, k17, k19⟩ := zkf0 f (zk_i hk (by decide)) hk
  obtain ⟨r1, r12, r13⟩ := zkf1 (f + 1) (zk_i k1 (by decide)) k1
  have n1 : f + 1 + 1 ≠ t := zk_ne r1 ht (by decide)
  have n2 : f + 1 + 1 ≠ u := zk_ne r1 hu (by decide)
  refine zCi_of J zm_X0_takesTurn [some (.ref (w.2.2 f)), some (.ref (w.2.2 t)), some (.ref (w.2.2 u)), some (.int hd), none] (Nat.le_of_ble_eq_true rfl) rfl (fun g hg F X => ?_)
  subst hg
  generalize hA1 : feelF (M.1 (f + 1 + 1)) 1 (M.1 t) = A1
  have hA0 : A1 0 = M.1 t 0 := by rw [← hA1, feelF_0]
  refine z_aload_n F dX0_takesTurn_0 rfl ?_
  refine zg_X0_road F (by with_reducible assumption) fl_X0_12 dX0_takesTurn_1 (fun hk_1 => ?_)
  refine z_aload_n F dX0_takesTurn_4 rfl ?_
  refine z_iconst (v := 1) F dX0_takesTurn_5 (by decide) ?_
  refine z_callVv F (c_X1_feelOneMore J (by with_reducible assumption) (by with_reducible assumption) h1) zm_X1_feelOneMore zv_X1_feelOneMore ml_X0_99 (by with_reducible assumption) (by decide) rfl rfl rfl (Nat.le_of_ble_eq_true rfl) dX0_takesTurn_6 (by decide) (fun M_6 h_6 => ?_)
  replace h_6 := Eq.symm h_6
  subst h_6
  rw [hA1]
  refine z_aload_n F dX0_takesTurn_9 rfl ?_
  refine zg_X0_road F (by with_reducible assumption) fl_X0_12 dX0_takesTurn_10 (fun hk_10 => ?_)
  refine z_aload_n F dX0_takesTurn_13 rfl ?_
  refine z_aload_n F dX0_takesTurn_14 rfl ?_
  refine zg_X5_his F (by with_reducible assumption) fl_X0_89 dX0_takesTurn_15 ?_
  try simp only [za_off _ hne, za_at, hA0]
  refine z_iload_n F dX0_takesTurn_18 rfl ?_
  refine z_iconst (v := 1) F dX0_takesTurn_19 (by decide) ?_
  refine z_callVi F (c_X1_isGlad J (by with_reducible assumption) (by with_reducible assumption) (by rw [za_at, hA0]; exact h1) (by first | exact h2 | (rw [za_off _ hne]; exact h2))) zm_X1_isGlad zv_X1_isGlad ml_X0_103 (by with_reducible assumption) (by decide) rfl rfl rfl (Nat.le_of_ble_eq_true rfl) dX0_takesTurn_20 (by decide) (fun r_20 M_20 h_20 => ?_)
  obtain ⟨e_20, rfl⟩ := h_20
  replace e_20 := Eq.symm e_20
  subst e_20
  refine z_if_ne (tgt := 28) F dX0_takesTurn_23 (by decide) (fun h_23 => ?_) (fun h_23 => ?_)
  · replace h_23 := bI_1.mp h_23
    try simp only [za_off _ hne, za_at, hA0] at h_23
    refine z_aload_n F dX0_takesTurn_28 rfl ?_
    refine zg_X5_his F (by with_reducible assumption) fl_X0_89 dX0_takesTurn_29 ?_
    try simp only [za_off _ hne, za_at, hA0]
    refine z_istore (lv' := [_, _, _, _, _]) F dX0_takesTurn_32 (by decide) rfl rfl ?_
    refine z_aload_n F dX0_takesTurn_34 rfl ?_
    refine z_aload_n F dX0_takesTurn_35 rfl ?_
    refine zg_X5_his F (by with_reducible assumption) fl_X0_89 dX0_takesTurn_36 ?_
    try simp only [za_off _ hne, za_at, hA0]
    refine z_callVv F (c_X5_hasNew J (by with_reducible assumption)) zm_X5_hasNew zv_X5_hasNew ml_X0_107 (by with_reducible assumption) (by decide) rfl rfl rfl (Nat.le_of_ble_eq_true rfl) dX0_takesTurn_39 (by decide) (fun M_39 h_39 => ?_)
    replace h_39 := Eq.symm h_39
    subst h_39
    refine z_aload_n F dX0_takesTurn_42 rfl ?_
    refine z_iload F dX0_takesTurn_43 rfl ?_
    refine z_callVv F (c_X5_hasNew J (by with_reducible assumption)) zm_X5_hasNew zv_X5_hasNew ml_X0_107 (by with_reducible assumption) (by decide) rfl rfl rfl (Nat.le_of_ble_eq_true rfl) dX0_takesTurn_45 (by decide) (fun M_45 h_45 => ?_)
    replace h_45 := Eq.symm h_45
    subst h_45
    refine z_iconst (v := 1) F dX0_takesTurn_48 (by decide) ?_
    refine z_zret F X dX0_takesTurn_49 (by decide) ?_
    simp only [za_off _ n1, za_at] at h_23
    rw [turnA, turnB, turnC, hA1, if_pos h_23, if_pos h_23]
    refine ⟨?_, bI_t h_23⟩
    simp only [zs_za, za_za, za_at, za_off _ hne]
  · replace h_23 := bI_0.mp h_23
    try simp only [za_off _ hne, za_at, hA0] at h_23
    refine z_iconst (v := 0) F dX0_takesTurn_26 (by decide) ?_
    refine z_zret F X dX0_takesTurn_27 (by decide) ?_
    simp only [za_off _ n1, za_at] at h_23
    rw [turnA, turnB, turnC, hA1, if_neg h_23, if_neg h_23]
    refine ⟨?_, bI_f h_23⟩
    conv => rhs; rw [← za_off M (b := t) (f := A1) hne]
    rw [za_self]
def meetL (th : zF1) (hd : Int32) : Nat → Nat → zF1 × zF1 × Int32 → Int32 × zF1 × zF1
  | 0, _, s => (-4, s.1, s.2.1)
  | j + 1, k, s =>
    if k % 2 = 1 then
      (if (if turnC th hd s.1 s.2.1 = 0 then s.2.2 + 1 else 0) = 2 then (nI k, turnA th hd s.1 s.2.1, turnB th hd s.1 s.2.1)
       else meetL th hd j (k + 1) (turnA th hd s.1 s.2.1, turnB th hd s.1 s.2.1, if turnC th hd s.1 s.2.1 = 0 then s.2.2 + 1 else 0))
    else
      (if (if turnC th 99 s.2.1 s.1 = 0 then s.2.2 + 1 else 0) = 2 then (nI k, turnB th 99 s.2.1 s.1, turnA th 99 s.2.1 s.1)
       else meetL th hd j (k + 1) (turnB th 99 s.2.1 s.1, turnA th 99 s.2.1 s.1, if turnC th 99 s.2.1 s.1 = 0 then s.2.2 + 1 else 0))
theorem turnA_0 (th : zF1) (hd : Int32) (A B : zF1) : turnA th hd A B 0 = B 0 ∨ turnA th hd A B 0 = A 0 := by
  unfold turnA
  split
  · left; rw [va_up_ne _ _ (by decide), va_up_self]
  · right; exact feelF_0 _ _ _
theorem turnB_0 (th : zF1) (hd : Int32) (A B : zF1) : turnB th hd A B 0 = A 0 ∨ turnB th hd A B 0 = B 0 := by
  unfold turnB
  split
  · left; rw [va_up_ne _ _ (by decide), va_up_self]
  · right; rfl
theorem c_X0_turnsWith {l : Launch} {w : zE} (J : zJ w) {M : zM} {f n np a : Nat} {x : Int32} (hk : zk f = 0) (hn : zk n = 6) (hf : f = 87) (hn1 : n = 1) (hx : 0 ≤ x ∧ x < 10) (hh : 0 ≤ M.1 (n + 15) 0 ∧ M.1 (n + 15) 0 < 10) : zCi l w yX0_turnsWith cX0_turnsWith 7 (some .int) 3 [.ref (w.2.2 f), .int x, .ref (w.2.2 n)] M (fun r M2 => zfr M M2 ∧ ∃ U : zF1, U 0 = x ∧ U 1 = 0 ∧ U 2 = 0 ∧ r = (meetL (M.1 (n + 1 + 1)) (M.1 (n + 1) 2) 200 1 (M.1 (n + 15), U, 0)).1 ∧ M2.1 (f + 15) = (meetL (M.1 (n + 1 + 1)) (M.1 (n + 1) 2) 200 1 (M.1 (n + 15), U, 0)).2.1 ∧ M2.1 (f + 17) = (meetL (M.1 (n + 1 + 1)) (M.1 (n + 1) 2) 200 1 (M.1 (n + 15), U, 0)).2.2) := by
  obtain ⟨k1, k15, k17, k19⟩ := zkf0 f (zk_i hk (by decide)) hk
  refine zCi_of J zm_X0_turnsWith [some (.ref (w.2.2 f)), some (.int x), some (.ref (w.2.2 n)), none, none, none, none] (Nat.le_of_ble_eq_true rfl) rfl (fun g hg F X => ?_)
  subst hg
  obtain ⟨U0, hU⟩ : ∃ U : zF1, U = va_up (va_up (va_up (va_up (va_up (M.1 (f + 17)) 0 (-4)) 1 0) 2 0) 3 0) 0 x := ⟨_, rfl⟩
  generalize hr : meetL (M.1 (n + 1 + 1)) (M.1 (n + 1) 2) 200 1 (M.1 (n + 15), U0, 0) = r
  have hfin : ∀ M2, zfr M M2 → M2.1 (f + 15) = r.2.1 → M2.1 (f + 17) = r.2.2 → (fun (q : Int32) (M2 : zM) => zfr M M2 ∧ ∃ U : zF1, U 0 = x ∧ U 1 = 0 ∧ U 2 = 0 ∧ q = (meetL (M.1 (n + 1 + 1)) (M.1 (n + 1) 2) 200 1 (M.1 (n + 15), U, 0)).1 ∧ M2.1 (f + 15) = (meetL (M.1 (n + 1 + 1)) (M.1 (n + 1) 2) 200 1 (M.1 (n + 15), U, 0)).2.1 ∧ M2.1 (f + 17) = (meetL (M.1 (n + 1 + 1)) (M.1 (n + 1) 2) 200 1 (M.1 (n + 15), U, 0)).2.2) r.1 M2 := by
    intro M2 a1 a2 a3
    refine ⟨a1, U0, by rw [hU]; rfl, by rw [hU]; rfl, by rw [hU]; rfl, ?_, ?_, ?_⟩ <;> rw [hr]
    · exact a2
    · exact a3
  have key : ∀ (j k : Nat) (s : zF1 × zF1 × Int32) (x5 x6 : Option Value) (M' : zM), k + j = 201 → zok [none, none, none, none, none, x5, x6] 6 = true → zok [none, none, none, none, none, x5, x6] 5 = true → zfr M M' → M'.1 (f + 1 + 1) = M.1 (n + 1 + 1) → M'.1 (f + 1) = M.1 (n + 1) → M'.1 (f + 15) = s.1 → M'.1 (f + 17) = s.2.1 → (0 ≤ s.1 0 ∧ s.1 0 < 10) → (0 ≤ s.2.1 0 ∧ s.2.1 0 < 10) → meetL (M.1 (n + 1 + 1)) (M.1 (n + 1) 2) j k s = r → ZW w g 7 25 [some (.ref (w.2.2 f)), some (.int x), some (.ref (w.2.2 n)), some (.int s.2.2), some (.int (nI k)), x5, x6] [] M' := by
    intro j
    induction j with
    | zero =>
      intro k s x5 x6 M' hkj hok hok2 hfr p1 p2 p3 p4 v1 v2 hs
      have hkn : k = 201 := by omega
      subst hkn
      have hs : ((-4 : Int32), s.1, s.2.1) = r := hs
      refine z_iload F dX0_turnsWith_25 rfl ?_
      refine z_sipush (v := 200) F dX0_turnsWith_27 (by decide) ?_
      refine z_ic_gt (tgt := 118) F dX0_turnsWith_30 (by decide) (fun h_30 => ?_) (fun h_30 => absurd h_30 (by decide))
      refine z_bipush (v := (-4)) F dX0_turnsWith_118 (by decide) ?_
      refine z_iret F X dX0_turnsWith_120 ?_
      have q := hfin M' hfr (by rw [p3, ← hs]) (by rw [p4, ← hs])
      rw [← hs] at q
      exact q
    | succ j ih =>
      intro k s x5 x6 M' hkj hok hok2 hfr p1 p2 p3 p4 v1 v2 hs
      have hrem : nI k - nI k / 2 * 2 = nI (k % 2) := pk_rem (d := 2) (by omega) (by decide) (by decide)
      have w1 : 0 ≤ M'.1 (f + 15) 0 ∧ M'.1 (f + 15) 0 < 10 := by rw [p3]; exact v1
      have w2 : 0 ≤ M'.1 (f + 17) 0 ∧ M'.1 (f + 17) 0 < 10 := by rw [p4]; exact v2
      rw [meetL] at hs
      refine z_iload F dX0_turnsWith_25 rfl ?_
      refine z_sipush (v := 200) F dX0_turnsWith_27 (by decide) ?_
      refine z_ic_gt (tgt := 118) F dX0_turnsWith_30 (by decide) (fun h_30 => absurd h_30 (Int32.not_lt.mpr (nI_le (b := 200) (by omega) (by decide)))) (fun h_30 => ?_)
      refine z_iload F dX0_turnsWith_33 rfl ?_
      refine z_iconst (v := 2) F dX0_turnsWith_35 (by decide) ?_
      refine z_irem F dX0_turnsWith_36 (by decide) ?_
      rw [hrem]
      refine z_iconst (v := 1) F dX0_turnsWith_37 (by decide) ?_
      refine z_ic_ne (tgt := 45) F dX0_turnsWith_38 (by decide) (fun h_38 => ?_) (fun h_38 => ?_)
      · try simp only [p2] at h_38
        refine z_iconst (v := 0) F dX0_turnsWith_45 (by decide) ?_
        refine z_istore (lv' := [_, _, _, _, _, _, _]) F dX0_turnsWith_46 (by decide) rfl rfl ?_
        refine z_iload F dX0_turnsWith_48 rfl ?_
        refine z_if_eq (tgt := 75) F dX0_turnsWith_50 (by decide) (fun h_50 => ?_) (fun h_50 => absurd h_50 (by decide))
        refine z_aload_n F dX0_turnsWith_75 rfl ?_
        refine z_aload_n F dX0_turnsWith_76 rfl ?_
        refine zg_X0_other F (by with_reducible assumption) fl_X0_25 dX0_turnsWith_77 (fun hk_77 => ?_)
        refine z_aload_n F dX0_turnsWith_80 rfl ?_
        refine zg_X0_trip F (by with_reducible assumption) fl_X0_21 dX0_turnsWith_81 (fun hk_81 => ?_)
        refine z_bipush (v := 99) F dX0_turnsWith_84 (by decide) ?_
        refine z_callVi F (c_X0_takesTurn J hk (by with_reducible assumption) (by with_reducible assumption) (by omega) w2 w1) zm_X0_takesTurn zv_X0_takesTurn ml_X0_95 (by with_reducible assumption) (by decide) rfl rfl rfl (Nat.le_of_ble_eq_true rfl) dX0_turnsWith_86 (by decide) (fun r_86 M_86 h_86 => ?_)
        obtain ⟨e_86, rfl⟩ := h_86
        replace e_86 := Eq.symm e_86
        subst e_86
        refine z_istore (lv' := [_, _, _, _, _, _, _]) F dX0_turnsWith_89 (by decide) rfl rfl ?_
        refine z_iload F dX0_turnsWith_91 rfl ?_
        refine z_if_eq (tgt := 100) F dX0_turnsWith_93 (by decide) (fun h_93 => ?_) (fun h_93 => ?_)
        · replace h_93 := bI_0.mp h_93
          try simp only [p2] at h_93
          refine z_iload_n F dX0_turnsWith_100 rfl ?_
          refine z_iconst (v := 1) F dX0_turnsWith_101 (by decide) ?_
          refine z_iadd F dX0_turnsWith_102 ?_
          refine z_istore_n (lv' := [_, _, _, _, _, _, _]) F dX0_turnsWith_103 (by decide) rfl rfl ?_
          refine z_iload_n F dX0_turnsWith_104 rfl ?_
          refine z_iconst (v := 2) F dX0_turnsWith_105 (by decide) ?_
          refine z_ic_ne (tgt := 112) F dX0_turnsWith_106 (by decide) (fun h_106 => ?_) (fun h_106 => ?_)
          · try simp only [p2] at h_106
            refine z_iincc (c := 1) (lv' := [_, _, _, _, _, _, _]) F dX0_turnsWith_112 rfl (by decide) (by decide) rfl rfl ?_
            refine z_goto (tgt := 25) F dX0_turnsWith_115 (by decide) ?_
            skip
            rw [p1, p3, p4] at h_93
            have hpar : ¬ k % 2 = 1 := fun q => h_38 (by rw [q]; rfl)
            rw [if_neg hpar] at hs
            have hC : turnC (M.1 (n + 1 + 1)) 99 s.2.1 s.1 = 0 := bI_0.mpr h_93
            rw [if_pos hC] at hs
            rw [if_neg h_106] at hs
            rw [nI_1]
            simp only [p1, p3, p4]
            exact ih (k + 1) (turnB (M.1 (n + 1 + 1)) 99 s.2.1 s.1, turnA (M.1 (n + 1 + 1)) 99 s.2.1 s.1, s.2.2 + 1) _ _ _ (by omega) rfl rfl ((hfr.a (by omega)).a (by omega)) (by rw [za_off _ (by omega), za_off _ (by omega), p1]) (by rw [za_off _ (by omega), za_off _ (by omega), p2]) (by rw [za_at]) (by rw [za_off _ (by omega), za_at]) (by rcases turnB_0 (M.1 (n + 1 + 1)) 99 s.2.1 s.1 with e | e <;> (simp only [e]; first | exact v1 | exact v2)) (by rcases turnA_0 (M.1 (n + 1 + 1)) 99 s.2.1 s.1 with e | e <;> (simp only [e]; first | exact v1 | exact v2)) hs
          · try simp only [p2] at h_106
            refine z_iload F dX0_turnsWith_109 rfl ?_
            refine z_iret F X dX0_turnsWith_111 ?_
            skip
            rw [p1, p3, p4] at h_93
            have hpar : ¬ k % 2 = 1 := fun q => h_38 (by rw [q]; rfl)
            rw [if_neg hpar] at hs
            have hC : turnC (M.1 (n + 1 + 1)) 99 s.2.1 s.1 = 0 := bI_0.mpr h_93
            rw [if_pos hC] at hs
            rw [if_pos h_106] at hs
            have q := hfin _ ((hfr.a (b := f + 17) (f := turnA (M.1 (n + 1 + 1)) 99 s.2.1 s.1) (by omega)).a (b := f + 15) (f := turnB (M.1 (n + 1 + 1)) 99 s.2.1 s.1) (by omega)) (by rw [za_at, ← hs]) (by rw [za_off _ (by omega), za_at, ← hs])
            rw [← hs] at q
            simp only [p1, p3, p4]
            exact q
        · replace h_93 := bI_1.mp h_93
          try simp only [p2] at h_93
          refine z_iconst (v := 0) F dX0_turnsWith_96 (by decide) ?_
          refine z_goto (tgt := 103) F dX0_turnsWith_97 (by decide) ?_
          refine z_istore_n (lv' := [_, _, _, _, _, _, _]) F dX0_turnsWith_103 (by decide) rfl rfl ?_
          refine z_iload_n F dX0_turnsWith_104 rfl ?_
          refine z_iconst (v := 2) F dX0_turnsWith_105 (by decide) ?_
          refine z_ic_ne (tgt := 112) F dX0_turnsWith_106 (by decide) (fun h_106 => ?_) (fun h_106 => absurd h_106 (by decide))
          refine z_iincc (c := 1) (lv' := [_, _, _, _, _, _, _]) F dX0_turnsWith_112 rfl (by decide) (by decide) rfl rfl ?_
          refine z_goto (tgt := 25) F dX0_turnsWith_115 (by decide) ?_
          skip
          rw [p1, p3, p4] at h_93
          have hpar : ¬ k % 2 = 1 := fun q => h_38 (by rw [q]; rfl)
          rw [if_neg hpar] at hs
          have hC : ¬ turnC (M.1 (n + 1 + 1)) 99 s.2.1 s.1 = 0 := bI_1.mpr h_93
          rw [if_neg hC] at hs
          rw [if_neg h_106] at hs
          rw [nI_1]
          simp only [p1, p3, p4]
          exact ih (k + 1) (turnB (M.1 (n + 1 + 1)) 99 s.2.1 s.1, turnA (M.1 (n + 1 + 1)) 99 s.2.1 s.1, 0) _ _ _ (by omega) rfl rfl ((hfr.a (by omega)).a (by omega)) (by rw [za_off _ (by omega), za_off _ (by omega), p1]) (by rw [za_off _ (by omega), za_off _ (by omega), p2]) (by rw [za_at]) (by rw [za_off _ (by omega), za_at]) (by rcases turnB_0 (M.1 (n + 1 + 1)) 99 s.2.1 s.1 with e | e <;> (simp only [e]; first | exact v1 | exact v2)) (by rcases turnA_0 (M.1 (n + 1 + 1)) 99 s.2.1 s.1 with e | e <;> (simp only [e]; first | exact v1 | exact v2)) hs
      · try simp only [p2] at h_38
        refine z_iconst (v := 1) F dX0_turnsWith_41 (by decide) ?_
        refine z_goto (tgt := 46) F dX0_turnsWith_42 (by decide) ?_
        refine z_istore (lv' := [_, _, _, _, _, _, _]) F dX0_turnsWith_46 (by decide) rfl rfl ?_
        refine z_iload F dX0_turnsWith_48 rfl ?_
        refine z_if_eq (tgt := 75) F dX0_turnsWith_50 (by decide) (fun h_50 => absurd h_50 (by decide)) (fun h_50 => ?_)
        refine z_aload_n F dX0_turnsWith_53 rfl ?_
        refine z_aload_n F dX0_turnsWith_54 rfl ?_
        refine zg_X0_trip F (by with_reducible assumption) fl_X0_21 dX0_turnsWith_55 (fun hk_55 => ?_)
        refine z_aload_n F dX0_turnsWith_58 rfl ?_
        refine zg_X0_other F (by with_reducible assumption) fl_X0_25 dX0_turnsWith_59 (fun hk_59 => ?_)
        refine z_aload_n F dX0_turnsWith_62 rfl ?_
        refine zg_X0_road F (by with_reducible assumption) fl_X0_12 dX0_turnsWith_63 (fun hk_63 => ?_)
        refine zg_X1_heed F (by with_reducible assumption) fl_X0_92 dX0_turnsWith_66 ?_
        try simp only [p2]
        refine z_callVi F (c_X0_takesTurn J hk (by with_reducible assumption) (by with_reducible assumption) (by omega) w1 w2) zm_X0_takesTurn zv_X0_takesTurn ml_X0_95 (by with_reducible assumption) (by decide) rfl rfl rfl (Nat.le_of_ble_eq_true rfl) dX0_turnsWith_69 (by decide) (fun r_69 M_69 h_69 => ?_)
        obtain ⟨e_69, rfl⟩ := h_69
        replace e_69 := Eq.symm e_69
        subst e_69
        refine z_goto (tgt := 89) F dX0_turnsWith_72 (by decide) ?_
        refine z_istore (lv' := [_, _, _, _, _, _, _]) F dX0_turnsWith_89 (by decide) rfl rfl ?_
        refine z_iload F dX0_turnsWith_91 rfl ?_
        refine z_if_eq (tgt := 100) F dX0_turnsWith_93 (by decide) (fun h_93 => ?_) (fun h_93 => ?_)
        · replace h_93 := bI_0.mp h_93
          try simp only [p2] at h_93
          refine z_iload_n F dX0_turnsWith_100 rfl ?_
          refine z_iconst (v := 1) F dX0_turnsWith_101 (by decide) ?_
          refine z_iadd F dX0_turnsWith_102 ?_
          refine z_istore_n (lv' := [_, _, _, _, _, _, _]) F dX0_turnsWith_103 (by decide) rfl rfl ?_
          refine z_iload_n F dX0_turnsWith_104 rfl ?_
          refine z_iconst (v := 2) F dX0_turnsWith_105 (by decide) ?_
          refine z_ic_ne (tgt := 112) F dX0_turnsWith_106 (by decide) (fun h_106 => ?_) (fun h_106 => ?_)
          · try simp only [p2] at h_106
            refine z_iincc (c := 1) (lv' := [_, _, _, _, _, _, _]) F dX0_turnsWith_112 rfl (by decide) (by decide) rfl rfl ?_
            refine z_goto (tgt := 25) F dX0_turnsWith_115 (by decide) ?_
            skip
            rw [p1, p3, p4] at h_93
            have hpar : k % 2 = 1 := (nI_eq (by omega) (by decide)).mp h_38
            rw [if_pos hpar] at hs
            have hC : turnC (M.1 (n + 1 + 1)) (M.1 (n + 1) 2) s.1 s.2.1 = 0 := bI_0.mpr h_93
            rw [if_pos hC] at hs
            rw [if_neg h_106] at hs
            rw [nI_1]
            simp only [p1, p3, p4]
            exact ih (k + 1) (turnA (M.1 (n + 1 + 1)) (M.1 (n + 1) 2) s.1 s.2.1, turnB (M.1 (n + 1 + 1)) (M.1 (n + 1) 2) s.1 s.2.1, s.2.2 + 1) _ _ _ (by omega) rfl rfl ((hfr.a (by omega)).a (by omega)) (by rw [za_off _ (by omega), za_off _ (by omega), p1]) (by rw [za_off _ (by omega), za_off _ (by omega), p2]) (by rw [za_off _ (by omega), za_at]) (by rw [za_at]) (by rcases turnA_0 (M.1 (n + 1 + 1)) (M.1 (n + 1) 2) s.1 s.2.1 with e | e <;> (simp only [e]; first | exact v1 | exact v2)) (by rcases turnB_0 (M.1 (n + 1 + 1)) (M.1 (n + 1) 2) s.1 s.2.1 with e | e <;> (simp only [e]; first | exact v1 | exact v2)) hs
          · try simp only [p2] at h_106
            refine z_iload F dX0_turnsWith_109 rfl ?_
            refine z_iret F X dX0_turnsWith_111 ?_
            skip
            rw [p1, p3, p4] at h_93
            have hpar : k % 2 = 1 := (nI_eq (by omega) (by decide)).mp h_38
            rw [if_pos hpar] at hs
            have hC : turnC (M.1 (n + 1 + 1)) (M.1 (n + 1) 2) s.1 s.2.1 = 0 := bI_0.mpr h_93
            rw [if_pos hC] at hs
            rw [if_pos h_106] at hs
            have q := hfin _ ((hfr.a (b := f + 15) (f := turnA (M.1 (n + 1 + 1)) (M.1 (n + 1) 2) s.1 s.2.1) (by omega)).a (b := f + 17) (f := turnB (M.1 (n + 1 + 1)) (M.1 (n + 1) 2) s.1 s.2.1) (by omega)) (by rw [za_off _ (by omega), za_at, ← hs]) (by rw [za_at, ← hs])
            rw [← hs] at q
            simp only [p1, p3, p4]
            exact q
        · replace h_93 := bI_1.mp h_93
          try simp only [p2] at h_93
          refine z_iconst (v := 0) F dX0_turnsWith_96 (by decide) ?_
          refine z_goto (tgt := 103) F dX0_turnsWith_97 (by decide) ?_
          refine z_istore_n (lv' := [_, _, _, _, _, _, _]) F dX0_turnsWith_103 (by decide) rfl rfl ?_
          refine z_iload_n F dX0_turnsWith_104 rfl ?_
          refine z_iconst (v := 2) F dX0_turnsWith_105 (by decide) ?_
          refine z_ic_ne (tgt := 112) F dX0_turnsWith_106 (by decide) (fun h_106 => ?_) (fun h_106 => absurd h_106 (by decide))
          refine z_iincc (c := 1) (lv' := [_, _, _, _, _, _, _]) F dX0_turnsWith_112 rfl (by decide) (by decide) rfl rfl ?_
          refine z_goto (tgt := 25) F dX0_turnsWith_115 (by decide) ?_
          skip
          rw [p1, p3, p4] at h_93
          have hpar : k % 2 = 1 := (nI_eq (by omega) (by decide)).mp h_38
          rw [if_pos hpar] at hs
          have hC : ¬ turnC (M.1 (n + 1 + 1)) (M.1 (n + 1) 2) s.1 s.2.1 = 0 := bI_1.mpr h_93
          rw [if_neg hC] at hs
          rw [if_neg h_106] at hs
          rw [nI_1]
          simp only [p1, p3, p4]
          exact ih (k + 1) (turnA (M.1 (n + 1 + 1)) (M.1 (n + 1) 2) s.1 s.2.1, turnB (M.1 (n + 1 + 1)) (M.1 (n + 1) 2) s.1 s.2.1, 0) _ _ _ (by omega) rfl rfl ((hfr.a (by omega)).a (by omega)) (by rw [za_off _ (by omega), za_off _ (by omega), p1]) (by rw [za_off _ (by omega), za_off _ (by omega), p2]) (by rw [za_off _ (by omega), za_at]) (by rw [za_at]) (by rcases turnA_0 (M.1 (n + 1 + 1)) (M.1 (n + 1) 2) s.1 s.2.1 with e | e <;> (simp only [e]; first | exact v1 | exact v2)) (by rcases turnB_0 (M.1 (n + 1 + 1)) (M.1 (n + 1) 2) s.1 s.2.1 with e | e <;> (simp only [e]; first | exact v1 | exact v2)) hs
  refine z_aload_n F dX0_turnsWith_0 rfl ?_
  refine z_aload_n F dX0_turnsWith_1 rfl ?_
  refine z_callVv F (c_X0_begin J hk hn hf hn1) zm_X0_begin zv_X0_begin ml_X0_54 (by with_reducible assumption) (by decide) rfl rfl rfl (Nat.le_of_ble_eq_true rfl) dX0_turnsWith_2 (by decide) (fun M_2 h_2 => ?_)
  replace h_2 := Eq.symm h_2
  subst h_2
  refine z_aload_n F dX0_turnsWith_5 rfl ?_
  refine zg_X0_other F (by with_reducible assumption) fl_X0_25 dX0_turnsWith_6 (fun hk_6 => ?_)
  refine z_callVv F (c_X5_setOut J (by with_reducible assumption)) zm_X5_setOut zv_X5_setOut ml_X0_86 (by with_reducible assumption) (by decide) rfl rfl rfl (Nat.le_of_ble_eq_true rfl) dX0_turnsWith_9 (by decide) (fun M_9 h_9 => ?_)
  replace h_9 := Eq.symm h_9
  subst h_9
  refine z_aload_n F dX0_turnsWith_12 rfl ?_
  refine zg_X0_other F (by with_reducible assumption) fl_X0_25 dX0_turnsWith_13 (fun hk_13 => ?_)
  refine z_iload_n F dX0_turnsWith_16 rfl ?_
  refine zp_X5_his F (by with_reducible assumption) fl_X0_89 dX0_turnsWith_17 ?_
  refine z_iconst (v := 0) F dX0_turnsWith_20 (by decide) ?_
  refine z_istore_n (lv' := [_, _, _, _, _, _, _]) F dX0_turnsWith_21 (by decide) rfl rfl ?_
  refine z_iconst (v := 1) F dX0_turnsWith_22 (by decide) ?_
  refine z_istore (lv' := [_, _, _, _, _, _, _]) F dX0_turnsWith_23 (by decide) rfl rfl ?_
  have hb : ∀ b, b < f + 1 ∨ f + 17 ≤ b → (zbeg M f n).1 b = M.1 b := fun b q => zbeg_off M q
  simp only [zs_za, za_za, za_at, hb (f + 17) (by omega)]
  rw [← hU]
  exact key 200 1 (M.1 (n + 15), U0, 0) none none _ (by omega) rfl rfl (((zfr.rf M).beg hf).a (by omega)) (by rw [za_off _ (by omega), zbeg_th]) (by rw [za_off _ (by omega), zbeg_rb]) (by rw [za_off _ (by omega), zbeg_T]) (by rw [za_at]) hh (by rw [hU]; exact hx) hr
end
section
def waitS (Q : Nat → Int32) (x : Int32) : Nat → Nat → Int32
  | 0, _ => -1
  | j + 1, m => if Q m = x then nI m else waitS Q x j (m + 1)
/-- with which thing to wait, and where -/
def waitL (wo : Int32 → Int32) (V S : Nat → Int32) : Nat → Nat → Int32 × Int32 → Int32 × Int32
  | 0, _, s => s
  | j + 1, k, s => waitL wo V S j (k + 1) (if (s.1 = -4 ∨ wo (nI k) < wo s.1) ∧ V k = -4 then (if S k < 0 then s else (nI k, S k)) else s)
def waitQ (rb th pe : zF1) (np a : Nat) (T : zF1) (k m : Nat) : Int32 := (homeF (va_up rb 1 (nI (np + 1))) th (va_up (va_up pe (2 * np) (nI m)) (2 * np + 1) 0) (np + 1) (12 - a) (va_up T (5 + np) (nI k), -4)).1 (5 + np)
theorem c_X0_waitFor {l : Launch} {w : zE} (J : zJ w) {M : zM} {f n np a nt : Nat} {x : Int32} (hk : zk f = 0) (hn : zk n = 6) (hf : f = 87) (hn1 : n = 1) (ok : nowOK M n np a) (hnt : M.1 (n + 1) 0 = nI nt) (hnt10 : nt ≤ 10) : zCi l w yX0_waitFor cX0_waitFor 8 (some .int) 5 [.ref (w.2.2 f), .int x, .ref (w.2.2 n)] M (fun r M2 => zfr M M2 ∧ r = (waitL (worthO (M.1 (n + 1 + 1)) (M.1 (n + 1) 0)) (fun k => whoF (M.1 (n + 15)) np (nI k)) (fun k => waitS (waitQ (M.1 (n + 1)) (M.1 (n + 1 + 1)) (M.1 (n + 1 + 12)) np a (M.1 (n + 15)) k) x (12 - a) a) nt 0 (-4, M.1 f 4)).1 ∧ M2.1 f 4 = (waitL (worthO (M.1 (n + 1 + 1)) (M.1 (n + 1) 0)) (fun k => whoF (M.1 (n + 15)) np (nI k)) (fun k => waitS (waitQ (M.1 (n + 1)) (M.1 (n + 1 + 1)) (M.1 (n + 1 + 12)) np a (M.1 (n + 15)) k) x (12 - a) a) nt 0 (-4, M.1 f 4)).2) := by
  obtain ⟨k1, k15, k17, k19⟩ := zkf0 f (zk_i hk (by decide)) hk
  obtain ⟨r1, r12, r13⟩ := zkf1 (f + 1) (zk_i k1 (by decide)) k1
  obtain ⟨o1, o2, o3, o4, o5⟩ := id ok
  have hpin : vp_in (nI np) 9 := vp_in_nI (by omega) (by decide)
  have hpc : (nI np).toNatClampNeg = np := nI_clamp (by omega)
  refine zCi_of J zm_X0_waitFor [some (.ref (w.2.2 f)), some (.int x), some (.ref (w.2.2 n)), none, none, none, none, none] (Nat.le_of_ble_eq_true rfl) rfl (fun g hg F X => ?_)
  subst hg
  generalize hwo : worthO (M.1 (n + 1 + 1)) (M.1 (n + 1) 0) = wo at X
  generalize hV : (fun k => whoF (M.1 (n + 15)) np (nI k)) = V at X
  generalize hS : (fun k => waitS (waitQ (M.1 (n + 1)) (M.1 (n + 1 + 1)) (M.1 (n + 1 + 12)) np a (M.1 (n + 15)) k) x (12 - a) a) = S at X
  generalize hr : waitL wo V S nt 0 (-4, M.1 f 4) = r at X
  have key : ∀ (j k : Nat) (s : Int32 × Int32) (x5 x6 x7 : Option Value) (M' : zM), k + j = nt → zok [none, none, none, none, none, x5, x6, x7] 6 = true → zok [none, none, none, none, none, x5, x6, x7] 5 = true → zok [none, none, none, none, none, x5, x6, x7] 7 = true → zfr M M' → M'.1 f 4 = s.2 → waitL wo V S j k s = r → ZW w g 8 6 [some (.ref (w.2.2 f)), some (.int x), some (.ref (w.2.2 n)), some (.int s.1), some (.int (nI k)), x5, x6, x7] [] M' := by
    intro j
    induction j with
    | zero =>
      intro k s x5 x6 x7 M' hkj hok1 hok2 hok3 hfr hm hs
      obtain ⟨e1, e2, e3, e4⟩ := zfr_5 hfr hn1
      have hs : s = r := hs
      subst hs
      refine z_iload F dX0_waitFor_6 rfl ?_
      refine z_aload_n F dX0_waitFor_8 rfl ?_
      refine zg_X6_road F (by with_reducible assumption) fl_X0_32 dX0_waitFor_9 (fun hk_9 => ?_)
      refine zg_X1_thingCount F (by with_reducible assumption) fl_X0_61 dX0_waitFor_12 ?_
      try simp only [e1]
      refine z_ic_ge (tgt := 163) F dX0_waitFor_15 (by decide) (fun h_15 => ?_) (fun h_15 => absurd h_15 (Int32.not_lt.mpr (by rw [hnt]; exact nI_le (by omega) (by omega))))
      refine z_iload_n F dX0_waitFor_163 rfl ?_
      refine z_iret F X dX0_waitFor_164 ?_
      exact ⟨hfr, rfl, hm⟩
    | succ j ih =>
      intro k s x5 x6 x7 M' hkj hok1 hok2 hok3 hfr hm hs
      obtain ⟨e1, e2, e3, e4⟩ := zfr_5 hfr hn1
      rw [waitL] at hs
      have hVk : V k = whoF (M.1 (n + 15)) np (nI k) := by rw [← hV]
      have hSk : S k = waitS (waitQ (M.1 (n + 1)) (M.1 (n + 1 + 1)) (M.1 (n + 1 + 12)) np a (M.1 (n + 15)) k) x (12 - a) a := by rw [← hS]
      generalize hQ : waitQ (M.1 (n + 1)) (M.1 (n + 1 + 1)) (M.1 (n + 1 + 12)) np a (M.1 (n + 15)) k = Q at hSk
      have inner : (s.1 = -4 ∨ wo (nI k) < wo s.1) ∧ V k = -4 → ∀ (i m : Nat) (y7 : Option Value) (M1 : zM), m + i = 12 → zok [none, none, none, none, none, none, some (.int 0), y7] 7 = true → zfr M M1 → M1.1 f 4 = s.2 → waitS Q x i m = S k → ZW w g 8 86 [some (.ref (w.2.2 f)), some (.int x), some (.ref (w.2.2 n)), some (.int s.1), some (.int (nI k)), some (.int 1), some (.int (nI m)), y7] [] M1 := by
        intro hc
        rw [if_pos hc] at hs
        intro i
        induction i with
        | zero =>
          intro m y7 M1 hmi hok hfr1 hm1 hw
          have hmn : m = 12 := by omega
          subst hmn
          have hneg : S k < 0 := by rw [← hw]; exact (by decide : (-1 : Int32) < 0)
          rw [if_pos hneg] at hs
          refine z_iload F dX0_waitFor_86 rfl ?_
          refine z_bipush (v := 12) F dX0_waitFor_88 (by decide) ?_
          refine z_ic_ge (tgt := 157) F dX0_waitFor_90 (by decide) (fun h_90 => ?_) (fun h_90 => absurd h_90 (by decide))
          refine z_iincc (c := 1) (lv' := [_, _, _, _, _, _, _, _]) F dX0_waitFor_157 rfl (by decide) (by decide) rfl rfl ?_
          refine z_goto (tgt := 6) F dX0_waitFor_160 (by decide) ?_
          rw [nI_1]
          exact ih (k + 1) s _ _ _ _ (by omega) rfl rfl rfl hfr1 hm1 hs
        | succ i ihm =>
          intro m y7 M1 hmi hok hfr1 hm1 hw
          obtain ⟨e1, e2, e3, e4⟩ := zfr_5 hfr1 hn1
          have hQm : Q m = (homeF (va_up (M.1 (n + 1)) 1 (nI (np + 1))) (M.1 (n + 1 + 1)) (va_up (va_up (M.1 (n + 1 + 12)) (2 * np) (nI m)) (2 * np + 1) 0) (np + 1) (12 - a) (va_up (M.1 (n + 15)) (5 + np) (nI k), -4)).1 (5 + np) := by rw [← hQ]; rfl
          rw [waitS] at hw
          generalize hM2 : zs (zs (zs (zs (zbeg M1 f n) (f + 1 + 12) (2 * np) (nI m)) (f + 1 + 12) (2 * np + 1) 0) (f + 15) (5 + np) (nI k)) (f + 1) 1 (nI (np + 1)) = M2
          have q0 : M2.1 f 4 = s.2 := by rw [← hM2, zs_off _ (by omega), zs_off _ (by omega), zs_off _ (by omega), zs_off _ (by omega), zbeg_off _ (by omega), hm1]
          have q1 : M2.1 (f + 1) = va_up (M.1 (n + 1)) 1 (nI (np + 1)) := by rw [← hM2, zs_at, zs_off _ (by omega), zs_off _ (by omega), zs_off _ (by omega), zbeg_rb, e1]
          have q2 : M2.1 (f + 1 + 1) = M.1 (n + 1 + 1) := by rw [← hM2, zs_off _ (by omega), zs_off _ (by omega), zs_off _ (by omega), zs_off _ (by omega), zbeg_th, e2]
          have q3 : M2.1 (f + 1 + 12) = va_up (va_up (M.1 (n + 1 + 12)) (2 * np) (nI m)) (2 * np + 1) 0 := by rw [← hM2, zs_off _ (by omega), zs_off _ (by omega), zs_at, zs_at, zbeg_pe, e3]
          have q4 : M2.1 (f + 15) = va_up (M.1 (n + 15)) (5 + np) (nI k) := by rw [← hM2, zs_off _ (by omega), zs_at, zs_off _ (by omega), zs_off _ (by omega), zbeg_T, e4]
          have q5 : M2.1 (f + 15 + 1) 0 = -4 := by rw [← hM2, zs_off _ (by omega), zs_off _ (by omega), zs_off _ (by omega), zs_off _ (by omega), zbeg_r]
          have q6 : zfr M M2 := by rw [← hM2]; exact ((((hfr1.beg hf).s (by omega)).s (by omega)).s (by omega)).s (by omega)
          have g0 : ∀ T rf, (zt M2 (f + 15) T rf).1 f 4 = s.2 := fun T rf => by rw [zt_off (by omega) (by omega), q0]
          refine z_iload F dX0_waitFor_86 rfl ?_
          refine z_bipush (v := 12) F dX0_waitFor_88 (by decide) ?_
          refine z_ic_ge (tgt := 157) F dX0_waitFor_90 (by decide) (fun h_90 => absurd h_90 (Int32.not_le.mpr (nI_lt (b := 12) (by omega) (by decide)))) (fun h_90 => ?_)
          refine z_aload_n F dX0_waitFor_93 rfl ?_
          refine z_aload_n F dX0_waitFor_94 rfl ?_
          refine z_callVv F (c_X0_begin J hk hn hf hn1) zm_X0_begin zv_X0_begin ml_X0_54 (by with_reducible assumption) (by decide) rfl rfl rfl (Nat.le_of_ble_eq_true rfl) dX0_waitFor_95 (by decide) (fun M_95 h_95 => ?_)
          replace h_95 := Eq.symm h_95
          subst h_95
          refine z_aload_n F dX0_waitFor_98 rfl ?_
          refine zg_X0_road F (by with_reducible assumption) fl_X0_12 dX0_waitFor_99 (fun hk_99 => ?_)
          refine z_iload F dX0_waitFor_102 rfl ?_
          refine z_iconst (v := 0) F dX0_waitFor_104 (by decide) ?_
          refine z_iload F dX0_waitFor_105 rfl ?_
          refine z_aload_n F dX0_waitFor_107 rfl ?_
          refine zg_X0_trip F (by with_reducible assumption) fl_X0_21 dX0_waitFor_108 (fun hk_108 => ?_)
          refine z_callVi F (c_X1_addPerson J (by with_reducible assumption) (by with_reducible assumption) (n := np) (by rw [zbeg_rb, e1]; exact o2) (by omega)) zm_X1_addPerson zv_X1_addPerson ml_X0_72 (by with_reducible assumption) (by decide) rfl rfl rfl (Nat.le_of_ble_eq_true rfl) dX0_waitFor_111 (by decide) (fun r_111 M_111 h_111 => ?_)
          obtain ⟨e_111, rfl⟩ := h_111
          replace e_111 := Eq.symm e_111
          subst e_111
          rw [hM2]
          refine z_istore (lv' := [_, _, _, _, _, _, _, _]) F dX0_waitFor_114 (by decide) rfl rfl ?_
          refine z_aload_n F dX0_waitFor_116 rfl ?_
          refine z_callVv F (c_X0_walkHome J hk (by rw [q1, va_up_ne _ _ (by decide)]; exact o1) (np := np + 1) (by rw [q1, va_up_self]) (by omega) (a := a) (by rw [q4, va_up_ne _ _ (by omega)]; exact o4) o5) zm_X0_walkHome zv_X0_walkHome ml_X0_58 (by with_reducible assumption) (by decide) rfl rfl rfl (Nat.le_of_ble_eq_true rfl) dX0_waitFor_117 (by decide) (fun M_117 h_117 => ?_)
          replace h_117 := Eq.symm h_117
          subst h_117
          refine z_iload F dX0_waitFor_120 rfl ?_
          refine z_if_lt (tgt := 151) F dX0_waitFor_122 (by decide) (fun h_122 => absurd h_122 (nI_pos (by omega))) (fun h_122 => ?_)
          refine z_aload_n F dX0_waitFor_125 rfl ?_
          refine zg_X0_trip F (by with_reducible assumption) fl_X0_21 dX0_waitFor_126 (fun hk_126 => ?_)
          refine zg_X5_theirs F (by with_reducible assumption) fl_X0_76 dX0_waitFor_129 (fun hk_129 => ?_)
          refine z_iload F dX0_waitFor_132 rfl ?_
          refine z_iald11 F (by with_reducible assumption) hpin dX0_waitFor_134 ?_
          try simp only [hpc, zt_t, q1, q2, q3, q4, q5, ← hQm]
          refine z_iload_n F dX0_waitFor_135 rfl ?_
          refine z_ic_ne (tgt := 151) F dX0_waitFor_136 (by decide) (fun h_136 => ?_) (fun h_136 => ?_)
          · try simp only [hpc, zt_t, q1, q2, q3, q4, q5, ← hQm] at h_136
            refine z_iincc (c := 1) (lv' := [_, _, _, _, _, _, _, _]) F dX0_waitFor_151 rfl (by decide) (by decide) rfl rfl ?_
            refine z_goto (tgt := 86) F dX0_waitFor_154 (by decide) ?_
            rw [if_neg h_136] at hw
            rw [nI_1]
            exact ihm (m + 1) _ _ (by omega) rfl (q6.t (by omega)) (g0 _ _) hw
          · try simp only [hpc, zt_t, q1, q2, q3, q4, q5, ← hQm] at h_136
            refine z_iload F dX0_waitFor_139 rfl ?_
            refine z_istore_n (lv' := [_, _, _, _, _, _, _, _]) F dX0_waitFor_141 (by decide) rfl rfl ?_
            refine z_aload_n F dX0_waitFor_142 rfl ?_
            refine z_iload F dX0_waitFor_143 rfl ?_
            refine zp_X0_milestone F (by with_reducible assumption) fl_X0_80 dX0_waitFor_145 ?_
            refine z_goto (tgt := 157) F dX0_waitFor_148 (by decide) ?_
            refine z_iincc (c := 1) (lv' := [_, _, _, _, _, _, _, _]) F dX0_waitFor_157 rfl (by decide) (by decide) rfl rfl ?_
            refine z_goto (tgt := 6) F dX0_waitFor_160 (by decide) ?_
            rw [if_pos h_136] at hw
            rw [nI_1]
            have hnn : ¬ S k < 0 := by rw [← hw]; exact nI_pos (by omega)
            rw [if_neg hnn, ← hw] at hs
            exact ih (k + 1) (nI k, nI m) _ _ _ _ (by omega) rfl rfl rfl ((q6.t (by omega)).s (by omega)) (by rw [zs_at, va_up_self]) hs
      refine z_iload F dX0_waitFor_6 rfl ?_
      refine z_aload_n F dX0_waitFor_8 rfl ?_
      refine zg_X6_road F (by with_reducible assumption) fl_X0_32 dX0_waitFor_9 (fun hk_9 => ?_)
      refine zg_X1_thingCount F (by with_reducible assumption) fl_X0_61 dX0_waitFor_12 ?_
      try simp only [e1, e4, hwo, ← hVk]
      refine z_ic_ge (tgt := 163) F dX0_waitFor_15 (by decide) (fun h_15 => absurd h_15 (Int32.not_le.mpr (by rw [hnt]; exact nI_lt (by omega) (by omega)))) (fun h_15 => ?_)
      refine z_iload_n F dX0_waitFor_18 rfl ?_
      refine z_bipush (v := (-4)) F dX0_waitFor_19 (by decide) ?_
      refine z_ic_eq (tgt := 44) F dX0_waitFor_21 (by decide) (fun h_21 => ?_) (fun h_21 => ?_)
      · try simp only [e1, e4, hwo, ← hVk] at h_21
        refine z_iconst (v := 1) F dX0_waitFor_44 (by decide) ?_
        refine z_goto (tgt := 49) F dX0_waitFor_45 (by decide) ?_
        refine z_istore (lv' := [_, _, _, _, _, _, _, _]) F dX0_waitFor_49 (by decide) rfl rfl ?_
        refine z_iload F dX0_waitFor_51 rfl ?_
        refine z_if_eq (tgt := 157) F dX0_waitFor_53 (by decide) (fun h_53 => absurd h_53 (by decide)) (fun h_53 => ?_)
        refine z_aload_n F dX0_waitFor_56 rfl ?_
        refine zg_X6_road F (by with_reducible assumption) fl_X0_32 dX0_waitFor_57 (fun hk_57 => ?_)
        refine z_iload F dX0_waitFor_60 rfl ?_
        refine z_aload_n F dX0_waitFor_62 rfl ?_
        refine zg_X6_trip F (by with_reducible assumption) fl_X0_39 dX0_waitFor_63 (fun hk_63 => ?_)
        refine z_callVi F (c_X1_whoHas J (by with_reducible assumption) (by with_reducible assumption) (np := np) (by rw [e1]; exact o2) (by omega)) zm_X1_whoHas zv_X1_whoHas ml_X0_68 (by with_reducible assumption) (by decide) rfl rfl rfl (Nat.le_of_ble_eq_true rfl) dX0_waitFor_66 (by decide) (fun r_66 M_66 h_66 => ?_)
        obtain ⟨e_66, rfl⟩ := h_66
        replace e_66 := Eq.symm e_66
        subst e_66
        refine z_bipush (v := (-4)) F dX0_waitFor_69 (by decide) ?_
        refine z_ic_eq (tgt := 77) F dX0_waitFor_71 (by decide) (fun h_71 => ?_) (fun h_71 => ?_)
        · try simp only [e1, e4, hwo, ← hVk] at h_71
          refine z_aload_n F dX0_waitFor_77 rfl ?_
          refine zg_X6_trip F (by with_reducible assumption) fl_X0_39 dX0_waitFor_78 (fun hk_78 => ?_)
          refine zg_X5_ahead F (by with_reducible assumption) fl_X0_47 dX0_waitFor_81 ?_
          try simp only [e1, e4, hwo, ← hVk]
          refine z_istore (lv' := [_, _, _, _, _, _, _, _]) F dX0_waitFor_84 (by decide) rfl rfl ?_
          rw [o4]
          exact inner ⟨Or.inl h_21, h_71⟩ (12 - a) a _ _ (by omega) rfl hfr hm hSk.symm
        · try simp only [e1, e4, hwo, ← hVk] at h_71
          refine z_goto (tgt := 157) F dX0_waitFor_74 (by decide) ?_
          refine z_iincc (c := 1) (lv' := [_, _, _, _, _, _, _, _]) F dX0_waitFor_157 rfl (by decide) (by decide) rfl rfl ?_
          refine z_goto (tgt := 6) F dX0_waitFor_160 (by decide) ?_
          rw [nI_1]
          refine ih (k + 1) s _ _ _ _ (by omega) rfl rfl hok3 hfr hm ((congrArg (waitL wo V S j (k + 1)) (if_neg ?_)).symm.trans hs)
          rintro ⟨qa, qb⟩
          first
            | exact h_71 qb
            | (simp only [e1, e2, hwo] at h_41; exact qa.elim h_21 (nlt h_41))
      · try simp only [e1, e4, hwo, ← hVk] at h_21
        refine z_aload_n F dX0_waitFor_24 rfl ?_
        refine zg_X6_road F (by with_reducible assumption) fl_X0_32 dX0_waitFor_25 (fun hk_25 => ?_)
        refine z_iload F dX0_waitFor_28 rfl ?_
        refine z_callVi F (c_X1_worthOf J (by with_reducible assumption) (by rw [e1]; exact o1)) zm_X1_worthOf zv_X1_worthOf ml_X0_64 (by with_reducible assumption) (by decide) rfl rfl rfl (Nat.le_of_ble_eq_true rfl) dX0_waitFor_30 (by decide) (fun r_30 M_30 h_30 => ?_)
        obtain ⟨e_30, rfl⟩ := h_30
        replace e_30 := Eq.symm e_30
        subst e_30
        refine z_aload_n F dX0_waitFor_33 rfl ?_
        refine zg_X6_road F (by with_reducible assumption) fl_X0_32 dX0_waitFor_34 (fun hk_34 => ?_)
        refine z_iload_n F dX0_waitFor_37 rfl ?_
        refine z_callVi F (c_X1_worthOf J (by with_reducible assumption) (by rw [e1]; exact o1)) zm_X1_worthOf zv_X1_worthOf ml_X0_64 (by with_reducible assumption) (by decide) rfl rfl rfl (Nat.le_of_ble_eq_true rfl) dX0_waitFor_38 (by decide) (fun r_38 M_38 h_38 => ?_)
        obtain ⟨e_38, rfl⟩ := h_38
        replace e_38 := Eq.symm e_38
        subst e_38
        refine z_ic_ge (tgt := 48) F dX0_waitFor_41 (by decide) (fun h_41 => ?_) (fun h_41 => ?_)
        · try simp only [e1, e4, hwo, ← hVk] at h_41
          refine z_iconst (v := 0) F dX0_waitFor_48 (by decide) ?_
          refine z_istore (lv' := [_, _, _, _, _, _, _, _]) F dX0_waitFor_49 (by decide) rfl rfl ?_
          refine z_iload F dX0_waitFor_51 rfl ?_
          refine z_if_eq (tgt := 157) F dX0_waitFor_53 (by decide) (fun h_53 => ?_) (fun h_53 => absurd h_53 (by decide))
          refine z_iincc (c := 1) (lv' := [_, _, _, _, _, _, _, _]) F dX0_waitFor_157 rfl (by decide) (by decide) rfl rfl ?_
          refine z_goto (tgt := 6) F dX0_waitFor_160 (by decide) ?_
          rw [nI_1]
          refine ih (k + 1) s _ _ _ _ (by omega) rfl rfl hok3 hfr hm ((congrArg (waitL wo V S j (k + 1)) (if_neg ?_)).symm.trans hs)
          rintro ⟨qa, qb⟩
          first
            | exact h_71 qb
            | (simp only [e1, e2, hwo] at h_41; exact qa.elim h_21 (nlt h_41))
        · try simp only [e1, e4, hwo, ← hVk] at h_41
          refine z_iconst (v := 1) F dX0_waitFor_44 (by decide) ?_
          refine z_goto (tgt := 49) F dX0_waitFor_45 (by decide) ?_
          refine z_istore (lv' := [_, _, _, _, _, _, _, _]) F dX0_waitFor_49 (by decide) rfl rfl ?_
          refine z_iload F dX0_waitFor_51 rfl ?_
          refine z_if_eq (tgt := 157) F dX0_waitFor_53 (by decide) (fun h_53 => absurd h_53 (by decide)) (fun h_53 => ?_)
          refine z_aload_n F dX0_waitFor_56 rfl ?_
          refine zg_X6_road F (by with_reducible assumption) fl_X0_32 dX0_waitFor_57 (fun hk_57 => ?_)
          refine z_iload F dX0_waitFor_60 rfl ?_
          refine z_aload_n F dX0_waitFor_62 rfl ?_
          refine zg_X6_trip F (by with_reducible assumption) fl_X0_39 dX0_waitFor_63 (fun hk_63 => ?_)
          refine z_callVi F (c_X1_whoHas J (by with_reducible assumption) (by with_reducible assumption) (np := np) (by rw [e1]; exact o2) (by omega)) zm_X1_whoHas zv_X1_whoHas ml_X0_68 (by with_reducible assumption) (by decide) rfl rfl rfl (Nat.le_of_ble_eq_true rfl) dX0_waitFor_66 (by decide) (fun r_66 M_66 h_66 => ?_)
          obtain ⟨e_66, rfl⟩ := h_66
          replace e_66 := Eq.symm e_66
          subst e_66
          refine z_bipush (v := (-4)) F dX0_waitFor_69 (by decide) ?_
          refine z_ic_eq (tgt := 77) F dX0_waitFor_71 (by decide) (fun h_71 => ?_) (fun h_71 => ?_)
          · try simp only [e1, e4, hwo, ← hVk] at h_71
            refine z_aload_n F dX0_waitFor_77 rfl ?_
            refine zg_X6_trip F (by with_reducible assumption) fl_X0_39 dX0_waitFor_78 (fun hk_78 => ?_)
            refine zg_X5_ahead F (by with_reducible assumption) fl_X0_47 dX0_waitFor_81 ?_
            try simp only [e1, e4, hwo, ← hVk]
            refine z_istore (lv' := [_, _, _, _, _, _, _, _]) F dX0_waitFor_84 (by decide) rfl rfl ?_
            simp only [e1, e2, hwo] at h_41
            rw [o4]
            exact inner ⟨Or.inr h_41, h_71⟩ (12 - a) a _ _ (by omega) rfl hfr hm hSk.symm
          · try simp only [e1, e4, hwo, ← hVk] at h_71
            refine z_goto (tgt := 157) F dX0_waitFor_74 (by decide) ?_
            refine z_iincc (c := 1) (lv' := [_, _, _, _, _, _, _, _]) F dX0_waitFor_157 rfl (by decide) (by decide) rfl rfl ?_
            refine z_goto (tgt := 6) F dX0_waitFor_160 (by decide) ?_
            rw [nI_1]
            refine ih (k + 1) s _ _ _ _ (by omega) rfl rfl hok3 hfr hm ((congrArg (waitL wo V S j (k + 1)) (if_neg ?_)).symm.trans hs)
            rintro ⟨qa, qb⟩
            first
              | exact h_71 qb
              | (simp only [e1, e2, hwo] at h_41; exact qa.elim h_21 (nlt h_41))
  refine z_bipush (v := (-4)) F dX0_waitFor_0 (by decide) ?_
  refine z_istore_n (lv' := [_, _, _, _, _, _, _, _]) F dX0_waitFor_2 (by decide) rfl rfl ?_
  refine z_iconst (v := 0) F dX0_waitFor_3 (by decide) ?_
  refine z_istore (lv' := [_, _, _, _, _, _, _, _]) F dX0_waitFor_4 (by decide) rfl rfl ?_
  exact key nt 0 (-4, M.1 f 4) none none none M (by omega) rfl rfl rfl (zfr.rf M) rfl hr
end
section
theorem stepF_fst (rb th pe : zF1) (c : Int32) (p : Nat) (s s2 : zF1 × Int32) (h : s.1 = s2.1) : (stepF rb th pe c p s).1 = (stepF rb th pe c p s2).1 := by
  unfold stepF
  rw [h]
  split <;> simp [h]
theorem peoF_fst (rb th pe : zF1) (c : Int32) : ∀ (k : Nat) (s s2 : zF1 × Int32), s.1 = s2.1 → (peoF rb th pe c k s).1 = (peoF rb th pe c k s2).1
  | 0, s, s2, h => h
  | k + 1, s, s2, h => stepF_fst rb th pe c k _ _ (peoF_fst rb th pe c k s s2 h)
/-- a milestone, but for what refused him -/
def passT (rb th pe : zF1) (np : Nat) (c : Int32) (T : zF1) : zF1 := (passF rb th pe np c (T, 0)).1
theorem passF_fst (rb th pe : zF1) (np : Nat) (c : Int32) (s : zF1 × Int32) : (passF rb th pe np c s).1 = passT rb th pe np c s.1 := by
  unfold passT passF
  simp only [peoF_fst rb th pe c np (feelsF rb th c s.1, s.2) (feelsF rb th c s.1, 0) rfl]
/-- of all rows of cares, how many bring x home -/
def waysF (rb th pe : zF1) (np : Nat) (x : Int32) : Nat → zF1 → Int32
  | 0, T => if T 0 = x then 1 else 0
  | j + 1, T => if 12 ≤ T 3 then (if T 0 = x then 1 else 0) else
      if peoB pe (T 3) np 0 = 0 then 2 * waysF rb th pe np x j (passT rb th pe np 1 T)
      else waysF rb th pe np x j (passT rb th pe np 1 T) + waysF rb th pe np x j (passT rb th pe np 2 T)
/-- only forks behind the d-th differ -/
def zfk (f d : Nat) (M M' : zM) : Prop := M'.2 = M.2 ∧ ∀ b, (b < f + 22 + 2 * d ∨ f + 42 ≤ b) → M'.1 b = M.1 b
theorem c_ways {l : Launch} {w : zE} (J : zJ w) {f np : Nat} {x : Int32} (hk : zk f = 0) (hnp9 : np ≤ 9) : ∀ (j d : Nat) (M : zM), d + j = 10 → M.1 (f + 1) 0 ≤ 10 → M.1 (f + 1) 1 = nI np → zCi l w yX0_waysFrom cX0_waysFrom 5 (some .int) (4 + 2 * j) [.ref (w.2.2 f), .int (nI d), .int x] M (fun r M2 => zfk f d M M2 ∧ r = waysF (M.1 (f + 1)) (M.1 (f + 1 + 1)) (M.1 (f + 1 + 12)) np x j (M.1 (f + 20 + 2 * d))) := by
  obtain ⟨k1, k15, k17, k19⟩ := zkf0 f (zk_i hk (by decide)) hk
  have kf := zkf17 (f + 19) (zk_i k19 (by decide)) k19
  intro j
  induction j with
  | zero =>
    intro d M hd hn hnp
    have hpc : (nI d).toNatClampNeg = d := nI_clamp (by omega)
    have e20 : f + 19 + 1 + 2 * d = f + 20 + 2 * d := by omega
    refine zCi_of J zm_X0_waysFrom [some (.ref (w.2.2 f)), some (.int (nI d)), some (.int x), none, none] (Nat.le_of_ble_eq_true rfl) rfl (fun g hg F X => ?_)
    subst hg
    refine z_aload_n F dX0_waysFrom_0 rfl ?_
    refine zg_X0_forks F (by with_reducible assumption) fl_X0_28 dX0_waysFrom_1 (fun hk_1 => ?_)
    refine z_iload_n F dX0_waysFrom_4 rfl ?_
    refine z_aald17 F (by with_reducible assumption) (vp_in_nI (by omega) (by decide)) dX0_waysFrom_5 (fun hk_5 => ?_)
    rw [hpc, e20]
    rw [hpc, e20] at hk_5
    refine z_astore_n (lv' := [_, _, _, _, _]) F dX0_waysFrom_6 (by decide) rfl rfl ?_
    refine z_aload_n F dX0_waysFrom_7 rfl ?_
    refine zg_X5_ahead F (by with_reducible assumption) fl_X0_47 dX0_waysFrom_8 ?_
    refine z_bipush (v := 12) F dX0_waysFrom_11 (by decide) ?_
    refine z_ic_ge (tgt := 27) F dX0_waysFrom_13 (by decide) (fun h_13 => ?_) (fun h_13 => ?_)
    · refine z_aload_n F dX0_waysFrom_27 rfl ?_
      refine zg_X5_his F (by with_reducible assumption) fl_X0_89 dX0_waysFrom_28 ?_
      refine z_iload_n F dX0_waysFrom_31 rfl ?_
      refine z_ic_ne (tgt := 39) F dX0_waysFrom_32 (by decide) (fun h_32 => ?_) (fun h_32 => ?_)
      · refine z_iconst (v := 0) F dX0_waysFrom_39 (by decide) ?_
        refine z_iret F X dX0_waysFrom_40 ?_
        refine ⟨⟨rfl, fun _ _ => rfl⟩, ?_⟩
        first | (rw [waysF, if_pos h_32]; done) | (rw [waysF, if_neg h_32]; done)
      · refine z_iconst (v := 1) F dX0_waysFrom_35 (by decide) ?_
        refine z_goto (tgt := 40) F dX0_waysFrom_36 (by decide) ?_
        refine z_iret F X dX0_waysFrom_40 ?_
        refine ⟨⟨rfl, fun _ _ => rfl⟩, ?_⟩
        first | (rw [waysF, if_pos h_32]; done) | (rw [waysF, if_neg h_32]; done)
    · refine z_iload_n F dX0_waysFrom_16 rfl ?_
      refine z_iconst (v := 1) F dX0_waysFrom_17 (by decide) ?_
      refine z_iadd F dX0_waysFrom_18 ?_
      refine z_aload_n F dX0_waysFrom_19 rfl ?_
      refine zg_X0_forks F (by with_reducible assumption) fl_X0_28 dX0_waysFrom_20 (fun hk_20 => ?_)
      refine z_alen17 F (by with_reducible assumption) dX0_waysFrom_23 ?_
      refine z_ic_lt (tgt := 41) F dX0_waysFrom_24 (by decide) (fun h_24 => absurd h_24 (by rw [nI_1]; exact Int32.not_lt.mpr (nI_le (a := 11) (by omega) (by omega)))) (fun h_24 => ?_)
      refine z_aload_n F dX0_waysFrom_27 rfl ?_
      refine zg_X5_his F (by with_reducible assumption) fl_X0_89 dX0_waysFrom_28 ?_
      refine z_iload_n F dX0_waysFrom_31 rfl ?_
      refine z_ic_ne (tgt := 39) F dX0_waysFrom_32 (by decide) (fun h_32 => ?_) (fun h_32 => ?_)
      · refine z_iconst (v := 0) F dX0_waysFrom_39 (by decide) ?_
        refine z_iret F X dX0_waysFrom_40 ?_
        refine ⟨⟨rfl, fun _ _ => rfl⟩, ?_⟩
        first | (rw [waysF, if_pos h_32]; done) | (rw [waysF, if_neg h_32]; done)
      · refine z_iconst (v := 1) F dX0_waysFrom_35 (by decide) ?_
        refine z_goto (tgt := 40) F dX0_waysFrom_36 (by decide) ?_
        refine z_iret F X dX0_waysFrom_40 ?_
        refine ⟨⟨rfl, fun _ _ => rfl⟩, ?_⟩
        first | (rw [waysF, if_pos h_32]; done) | (rw [waysF, if_neg h_32]; done)
  | succ j ih =>
    intro d M hd hn hnp
    have hpc : (nI d).toNatClampNeg = d := nI_clamp (by omega)
    have hpc1 : (nI (d + 1)).toNatClampNeg = d + 1 := nI_clamp (by omega)
    have e20 : f + 19 + 1 + 2 * d = f + 20 + 2 * d := by omega
    have e21 : f + 19 + 1 + 2 * (d + 1) = f + 20 + 2 * (d + 1) := by omega
    have behind : ∀ (c : Int32) (M : zM), M.1 (f + 1) 0 ≤ 10 → M.1 (f + 1) 1 = nI np → zCi l w yX0_waysBehind cX0_waysBehind 4 (some .int) (5 + 2 * j) [.ref (w.2.2 f), .int (nI d), .int x, .int c] M (fun r M2 => zfk f d M M2 ∧ r = waysF (M.1 (f + 1)) (M.1 (f + 1 + 1)) (M.1 (f + 1 + 12)) np x j (passT (M.1 (f + 1)) (M.1 (f + 1 + 1)) (M.1 (f + 1 + 12)) np c (M.1 (f + 20 + 2 * d)))) := by
      intro c M hn hnp
      have kd : zk (f + 20 + 2 * d) = 5 := by rw [← e20]; exact kf d (by omega)
      have kd1 : zk (f + 20 + 2 * (d + 1)) = 5 := by rw [← e21]; exact kf (d + 1) (by omega)
      refine zCi_of J zm_X0_waysBehind [some (.ref (w.2.2 f)), some (.int (nI d)), some (.int x), some (.int c)] (Nat.le_of_ble_eq_true rfl) rfl (fun g hg F X => ?_)
      subst hg
      refine z_aload_n F dX0_waysBehind_0 rfl ?_
      refine zg_X0_forks F (by with_reducible assumption) fl_X0_28 dX0_waysBehind_1 (fun hk_1 => ?_)
      refine z_iload_n F dX0_waysBehind_4 rfl ?_
      refine z_iconst (v := 1) F dX0_waysBehind_5 (by decide) ?_
      refine z_iadd F dX0_waysBehind_6 ?_
      rw [nI_1]
      refine z_aald17 F (by with_reducible assumption) (vp_in_nI (by omega) (by decide)) dX0_waysBehind_7 (fun hk_7 => ?_)
      rw [hpc1, e21]
      refine z_aload_n F dX0_waysBehind_8 rfl ?_
      refine zg_X0_forks F (by with_reducible assumption) fl_X0_28 dX0_waysBehind_9 (fun hk_9 => ?_)
      refine z_iload_n F dX0_waysBehind_12 rfl ?_
      refine z_aald17 F (by with_reducible assumption) (vp_in_nI (by omega) (by decide)) dX0_waysBehind_13 (fun hk_13 => ?_)
      rw [hpc, e20]
      refine z_callVv F (d_X5_setFrom J kd1 kd (by omega)) zm_X5_setFrom zv_X5_setFrom ml_X0_40 kd1 (by decide) rfl rfl rfl (Nat.le_of_ble_eq_true rfl) dX0_waysBehind_14 (by omega) (fun M_14 h_14 => ?_)
      replace h_14 := Eq.symm h_14
      subst h_14
      refine z_aload_n F dX0_waysBehind_17 rfl ?_
      refine zg_X0_road F (by with_reducible assumption) fl_X0_12 dX0_waysBehind_18 (fun hk_18 => ?_)
      refine z_aload_n F dX0_waysBehind_21 rfl ?_
      refine zg_X0_forks F (by with_reducible assumption) fl_X0_28 dX0_waysBehind_22 (fun hk_22 => ?_)
      refine z_iload_n F dX0_waysBehind_25 rfl ?_
      refine z_iconst (v := 1) F dX0_waysBehind_26 (by decide) ?_
      refine z_iadd F dX0_waysBehind_27 ?_
      rw [nI_1]
      refine z_aald17 F (by with_reducible assumption) (vp_in_nI (by omega) (by decide)) dX0_waysBehind_28 (fun hk_28 => ?_)
      rw [hpc1, e21]
      refine z_iload_n F dX0_waysBehind_29 rfl ?_
      refine z_callVi F (c_X1_pass J k1 kd1 (by rw [za_off _ (by omega)]; exact hn) (np := np) (by rw [za_off _ (by omega)]; exact hnp) hnp9) zm_X1_pass zv_X1_pass ml_X0_50 (by with_reducible assumption) (by decide) rfl rfl rfl (Nat.le_of_ble_eq_true rfl) dX0_waysBehind_30 (by omega) (fun r_30 M_30 h_30 => ?_)
      obtain ⟨e_30, rfl⟩ := h_30
      replace e_30 := Eq.symm e_30
      subst e_30
      refine z_pop F dX0_waysBehind_33 rfl ?_
      refine z_aload_n F dX0_waysBehind_34 rfl ?_
      refine z_iload_n F dX0_waysBehind_35 rfl ?_
      refine z_iconst (v := 1) F dX0_waysBehind_36 (by decide) ?_
      refine z_iadd F dX0_waysBehind_37 ?_
      rw [nI_1]
      refine z_iload_n F dX0_waysBehind_38 rfl ?_
      refine z_callVi F (ih (d + 1) _ (by omega) (by rw [zt_off (by omega) (by omega), za_off _ (by omega)]; exact hn) (by rw [zt_off (by omega) (by omega), za_off _ (by omega)]; exact hnp)) zm_X0_waysFrom zv_X0_waysFrom ml_X0_111 (by with_reducible assumption) (by decide) rfl rfl rfl (Nat.le_of_ble_eq_true rfl) dX0_waysBehind_39 (by omega) (fun r_39 M_39 h_39 => ?_)
      skip
      refine z_iret F X dX0_waysBehind_42 ?_
      obtain ⟨⟨a1, a2⟩, a3⟩ := h_39
      refine ⟨⟨by rw [a1]; rfl, fun b q => ?_⟩, ?_⟩
      · rw [a2 b (by omega), zt_off (by omega) (by omega), za_off _ (by omega)]
      · rw [a3, zt_t, passF_fst, zt_off (by omega) (by omega), za_off _ (by omega), zt_off (by omega) (by omega), za_off _ (by omega), zt_off (by omega) (by omega), za_off _ (by omega), za_at]
    refine zCi_of J zm_X0_waysFrom [some (.ref (w.2.2 f)), some (.int (nI d)), some (.int x), none, none] (Nat.le_of_ble_eq_true rfl) rfl (fun g hg F X => ?_)
    subst hg
    refine z_aload_n F dX0_waysFrom_0 rfl ?_
    refine zg_X0_forks F (by with_reducible assumption) fl_X0_28 dX0_waysFrom_1 (fun hk_1 => ?_)
    refine z_iload_n F dX0_waysFrom_4 rfl ?_
    refine z_aald17 F (by with_reducible assumption) (vp_in_nI (by omega) (by decide)) dX0_waysFrom_5 (fun hk_5 => ?_)
    rw [hpc, e20]
    rw [hpc, e20] at hk_5
    refine z_astore_n (lv' := [_, _, _, _, _]) F dX0_waysFrom_6 (by decide) rfl rfl ?_
    refine z_aload_n F dX0_waysFrom_7 rfl ?_
    refine zg_X5_ahead F (by with_reducible assumption) fl_X0_47 dX0_waysFrom_8 ?_
    try simp only [q0, q3]
    refine z_bipush (v := 12) F dX0_waysFrom_11 (by decide) ?_
    refine z_ic_ge (tgt := 27) F dX0_waysFrom_13 (by decide) (fun h_13 => ?_) (fun h_13 => ?_)
    · try simp only [q0, q3] at h_13
      refine z_aload_n F dX0_waysFrom_27 rfl ?_
      refine zg_X5_his F (by with_reducible assumption) fl_X0_89 dX0_waysFrom_28 ?_
      try simp only [q0, q3]
      refine z_iload_n F dX0_waysFrom_31 rfl ?_
      refine z_ic_ne (tgt := 39) F dX0_waysFrom_32 (by decide) (fun h_32 => ?_) (fun h_32 => ?_)
      · try simp only [q0, q3] at h_32
        refine z_iconst (v := 0) F dX0_waysFrom_39 (by decide) ?_
        refine z_iret F X dX0_waysFrom_40 ?_
        refine ⟨⟨rfl, fun _ _ => rfl⟩, ?_⟩
        first | (rw [waysF, if_pos h_13, if_pos h_32]; done) | (rw [waysF, if_pos h_13, if_neg h_32]; done)
      · try simp only [q0, q3] at h_32
        refine z_iconst (v := 1) F dX0_waysFrom_35 (by decide) ?_
        refine z_goto (tgt := 40) F dX0_waysFrom_36 (by decide) ?_
        refine z_iret F X dX0_waysFrom_40 ?_
        refine ⟨⟨rfl, fun _ _ => rfl⟩, ?_⟩
        first | (rw [waysF, if_pos h_13, if_pos h_32]; done) | (rw [waysF, if_pos h_13, if_neg h_32]; done)
    · try simp only [q0, q3] at h_13
      refine z_iload_n F dX0_waysFrom_16 rfl ?_
      refine z_iconst (v := 1) F dX0_waysFrom_17 (by decide) ?_
      refine z_iadd F dX0_waysFrom_18 ?_
      refine z_aload_n F dX0_waysFrom_19 rfl ?_
      refine zg_X0_forks F (by with_reducible assumption) fl_X0_28 dX0_waysFrom_20 (fun hk_20 => ?_)
      refine z_alen17 F (by with_reducible assumption) dX0_waysFrom_23 ?_
      refine z_ic_lt (tgt := 41) F dX0_waysFrom_24 (by decide) (fun h_24 => ?_) (fun h_24 => absurd h_24 (by rw [nI_1]; exact Int32.not_le.mpr (nI_lt (b := 11) (by omega) (by decide))))
      refine z_aload_n F dX0_waysFrom_41 rfl ?_
      refine z_iload_n F dX0_waysFrom_42 rfl ?_
      refine z_iload_n F dX0_waysFrom_43 rfl ?_
      refine z_iconst (v := 1) F dX0_waysFrom_44 (by decide) ?_
      refine z_callVi F (behind 1 M hn hnp) zm_X0_waysBehind zv_X0_waysBehind ml_X0_115 (by with_reducible assumption) (by decide) rfl rfl rfl (Nat.le_of_ble_eq_true rfl) dX0_waysFrom_45 (by omega) (fun r_45 M_45 h_45 => ?_)
      obtain ⟨⟨a1, a2⟩, rfl⟩ := h_45
      have q0 := a2 (f + 1) (by omega)
      have q1 := a2 (f + 1 + 1) (by omega)
      have q2 := a2 (f + 1 + 12) (by omega)
      have q3 := a2 (f + 20 + 2 * d) (by omega)
      refine z_istore (lv' := [_, _, _, _, _]) F dX0_waysFrom_48 (by decide) rfl rfl ?_
      refine z_aload_n F dX0_waysFrom_50 rfl ?_
      refine zg_X0_road F (by with_reducible assumption) fl_X0_12 dX0_waysFrom_51 (fun hk_51 => ?_)
      refine z_aload_n F dX0_waysFrom_54 rfl ?_
      refine zg_X5_ahead F (by with_reducible assumption) fl_X0_47 dX0_waysFrom_55 ?_
      try simp only [q0, q3]
      refine z_callVi F (c_X1_isPeopled J (by with_reducible assumption) (by rw [q0]; exact hnp) hnp9) zm_X1_isPeopled zv_X1_isPeopled ml_X0_119 (by with_reducible assumption) (by decide) rfl rfl rfl (Nat.le_of_ble_eq_true rfl) dX0_waysFrom_58 (by omega) (fun r_58 M_58 h_58 => ?_)
      obtain ⟨e_58, rfl⟩ := h_58
      replace e_58 := Eq.symm e_58
      subst e_58
      refine z_if_eq (tgt := 77) F dX0_waysFrom_61 (by decide) (fun h_61 => ?_) (fun h_61 => ?_)
      · try simp only [q0, q3] at h_61
        refine z_iconst (v := 2) F dX0_waysFrom_77 (by decide) ?_
        refine z_iload F dX0_waysFrom_78 rfl ?_
        refine z_imul F dX0_waysFrom_80 ?_
        refine z_iret F X dX0_waysFrom_81 ?_
        rw [q2] at h_61
        refine ⟨⟨a1, a2⟩, ?_⟩
        rw [waysF, if_neg (nle h_13), if_pos h_61]
      · try simp only [q0, q3] at h_61
        refine z_iload F dX0_waysFrom_64 rfl ?_
        refine z_aload_n F dX0_waysFrom_66 rfl ?_
        refine z_iload_n F dX0_waysFrom_67 rfl ?_
        refine z_iload_n F dX0_waysFrom_68 rfl ?_
        refine z_iconst (v := 2) F dX0_waysFrom_69 (by decide) ?_
        refine z_callVi F (behind 2 _ (by rw [q0]; exact hn) (by rw [q0]; exact hnp)) zm_X0_waysBehind zv_X0_waysBehind ml_X0_115 (by with_reducible assumption) (by decide) rfl rfl rfl (Nat.le_of_ble_eq_true rfl) dX0_waysFrom_70 (by omega) (fun r_70 M_70 h_70 => ?_)
        obtain ⟨⟨b1, b2⟩, rfl⟩ := h_70
        refine z_iadd F dX0_waysFrom_73 ?_
        refine z_goto (tgt := 81) F dX0_waysFrom_74 (by decide) ?_
        refine z_iret F X dX0_waysFrom_81 ?_
        rw [q2] at h_61
        refine ⟨⟨b1.trans a1, fun b q => (b2 b q).trans (a2 b q)⟩, ?_⟩
        rw [waysF, if_neg (nle h_13), if_neg h_61, q0, q1, q2, q3]
theorem c_X0_waysTo {l : Launch} {w : zE} (J : zJ w) {M : zM} {f n np a : Nat} {x : Int32} (hk : zk f = 0) (hn : zk n = 6) (hf : f = 87) (hn1 : n = 1) (ok : nowOK M n np a) : zCi l w yX0_waysTo cX0_waysTo 3 (some .int) 25 [.ref (w.2.2 f), .int x, .ref (w.2.2 n)] M (fun r M2 => zfr M M2 ∧ r = waysF (M.1 (n + 1)) (M.1 (n + 1 + 1)) (M.1 (n + 1 + 12)) np x 10 (M.1 (n + 15))) := by
  obtain ⟨k1, k15, k17, k19⟩ := zkf0 f (zk_i hk (by decide)) hk
  have kf : zk (f + 20) = 5 := zkf17 (f + 19) (zk_i k19 (by decide)) k19 0 (by decide)
  have w0 : ∀ b, b ≠ f + 1 → b ≠ f + 1 + 1 → b ≠ f + 1 + 12 → (zrd M (f + 1) (M.1 (n + 1)) (M.1 (n + 1 + 1)) (M.1 (n + 1 + 12))).1 b = M.1 b := fun b h1 h2 h3 => by unfold zrd; rw [za_off _ h1, za_off _ h3, za_off _ h2]
  have w1 : (zrd M (f + 1) (M.1 (n + 1)) (M.1 (n + 1 + 1)) (M.1 (n + 1 + 12))).1 (f + 1) = M.1 (n + 1) := by unfold zrd; rw [za_at]
  have w2 : (zrd M (f + 1) (M.1 (n + 1)) (M.1 (n + 1 + 1)) (M.1 (n + 1 + 12))).1 (f + 1 + 1) = M.1 (n + 1 + 1) := by unfold zrd; rw [za_off _ (by omega), za_off _ (by omega), za_at]
  have w3 : (zrd M (f + 1) (M.1 (n + 1)) (M.1 (n + 1 + 1)) (M.1 (n + 1 + 12))).1 (f + 1 + 12) = M.1 (n + 1 + 12) := by unfold zrd; rw [za_off _ (by omega), za_at]
  have w4 : zfr M (zrd M (f + 1) (M.1 (n + 1)) (M.1 (n + 1 + 1)) (M.1 (n + 1 + 12))) := (((zfr.rf M).a (by omega)).a (by omega)).a (by omega)
  refine zCi_of J zm_X0_waysTo [some (.ref (w.2.2 f)), some (.int x), some (.ref (w.2.2 n))] (Nat.le_of_ble_eq_true rfl) rfl (fun g hg F X => ?_)
  subst hg
  refine z_aload_n F dX0_waysTo_0 rfl ?_
  refine zg_X0_road F (by with_reducible assumption) fl_X0_12 dX0_waysTo_1 (fun hk_1 => ?_)
  refine z_aload_n F dX0_waysTo_4 rfl ?_
  refine zg_X6_road F (by with_reducible assumption) fl_X0_32 dX0_waysTo_5 (fun hk_5 => ?_)
  refine z_callVv F (d_X1_setFrom J (by with_reducible assumption) (by with_reducible assumption) (by omega)) zm_X1_setFrom zv_X1_setFrom ml_X0_35 (by with_reducible assumption) (by decide) rfl rfl rfl (Nat.le_of_ble_eq_true rfl) dX0_waysTo_8 (by omega) (fun M_8 h_8 => ?_)
  replace h_8 := Eq.symm h_8
  subst h_8
  refine z_aload_n F dX0_waysTo_11 rfl ?_
  refine zg_X0_forks F (by with_reducible assumption) fl_X0_28 dX0_waysTo_12 (fun hk_12 => ?_)
  refine z_iconst (v := 0) F dX0_waysTo_15 (by decide) ?_
  refine z_aald17 F (by with_reducible assumption) (vp_in_nI (n := 0) (by decide) (by decide)) dX0_waysTo_16 (fun hk_16 => ?_)
  show ZW w g 3 17 _ (.ref (w.2.2 (f + 20)) :: _) _
  generalize zrd M (f + 1) (M.1 (n + 1)) (M.1 (n + 1 + 1)) (M.1 (n + 1 + 12)) = M1 at w0 w1 w2 w3 w4 ⊢
  refine z_aload_n F dX0_waysTo_17 rfl ?_
  refine zg_X6_trip F (by with_reducible assumption) fl_X0_39 dX0_waysTo_18 (fun hk_18 => ?_)
  refine z_callVv F (d_X5_setFrom J kf (by with_reducible assumption) (by omega)) zm_X5_setFrom zv_X5_setFrom ml_X0_40 kf (by decide) rfl rfl rfl (Nat.le_of_ble_eq_true rfl) dX0_waysTo_21 (by omega) (fun M_21 h_21 => ?_)
  replace h_21 := Eq.symm h_21
  subst h_21
  refine z_aload_n F dX0_waysTo_24 rfl ?_
  refine z_iconst (v := 0) F dX0_waysTo_25 (by decide) ?_
  refine z_iload_n F dX0_waysTo_26 rfl ?_
  refine z_callVi F (c_ways J hk (np := np) (by have := ok.2.2.1; omega) 10 0 _ (by omega) (by rw [za_off _ (by omega), w1]; exact ok.1) (by rw [za_off _ (by omega), w1]; exact ok.2.1)) zm_X0_waysFrom zv_X0_waysFrom ml_X0_111 (by with_reducible assumption) (by decide) rfl rfl rfl (Nat.le_of_ble_eq_true rfl) dX0_waysTo_27 (by omega) (fun r_27 M_27 h_27 => ?_)
  obtain ⟨⟨a1, a2⟩, rfl⟩ := h_27
  refine z_iret F X dX0_waysTo_30 ?_
  refine ⟨(w4.a (b := f + 20) (by omega)).tr ⟨a1, fun b q => a2 b (by omega)⟩, ?_⟩
  rw [za_off _ (by omega), za_off _ (by omega), za_off _ (by omega), w1, w2, w3]
  show waysF _ _ _ _ _ _ ((za M1 (f + 20) (M1.1 (n + 15))).1 (f + 20)) = _
  rw [za_at, w0 _ (by omega) (by omega) (by omega)]
end
section
/-- a row of the numbers 0 to 7, each once -/
def pmF (f : zF1) : Prop := (∀ k, k < 8 → ∃ j, j < 8 ∧ f k = nI j) ∧ ∀ a b, a < 8 → b < 8 → f a = f b → a = b
theorem pmF.lt {f : zF1} (h : pmF f) {k : Nat} (hk : k < 8) : (f k).toNatClampNeg < 8 := by
  obtain ⟨j, h1, h2⟩ := h.1 k hk
  rw [h2, nI_clamp (by omega)]
  exact h1
theorem pmF.n {f : zF1} (h : pmF f) {k : Nat} (hk : k < 8) : nI (f k).toNatClampNeg = f k := by
  obtain ⟨j, h1, h2⟩ := h.1 k hk
  rw [h2, nI_clamp (by omega)]
theorem pmF.inj {f : zF1} (h : pmF f) {a b : Nat} (ha : a < 8) (hb : b < 8) (e : (f a).toNatClampNeg = (f b).toNatClampNeg) : a = b := h.2 a b ha hb (by rw [← h.n ha, ← h.n hb, e])
def rotF (f : zF1) : zF1 := fun k => if k < 7 then f (k + 1) else if k = 7 then f 0 else f k
theorem rotF_pm {f : zF1} (h : pmF f) : pmF (rotF f) := by
  refine ⟨fun k hk => ?_, fun a b ha hb e => ?_⟩
  · unfold rotF
    by_cases q : k < 7
    · rw [if_pos q]; exact h.1 (k + 1) (by omega)
    · rw [if_neg q, if_pos (by omega)]; exact h.1 0 (by omega)
  · unfold rotF at e
    by_cases qa : a < 7 <;> by_cases qb : b < 7
    · rw [if_pos qa, if_pos qb] at e; have := h.2 _ _ (by omega) (by omega) e; omega
    · rw [if_pos qa, if_neg qb, if_pos (by omega)] at e; have := h.2 _ _ (by omega) (by omega) e; omega
    · rw [if_neg qa, if_pos (by omega), if_pos qb] at e; have := h.2 _ _ (by omega) (by omega) e; omega
    · omega
theorem c_X6_loseOldest {l : Launch} {w : zE} (J : zJ w) {M : zM} {i : Nat} (hk : zk i = 6) (hp : pmF (M.1 (i + 17))) : zCv l w yX6_loseOldest cX6_loseOldest 3 0 [.ref (w.2.2 i)] M (fun M2 => M2 = zs (za M (i + 17) (rotF (M.1 (i + 17)))) i 3 7) := by
  obtain ⟨k1, k15, k17⟩ := zkf6 i (zk_i hk (by decide)) hk
  refine zCv_of J zm_X6_loseOldest [some (.ref (w.2.2 i)), none, none] (Nat.le_of_ble_eq_true rfl) rfl (fun g hg F X => ?_)
  subst hg
  have key : ∀ (j m : Nat), m + j = 7 → ZW w g 3 9 [some (.ref (w.2.2 i)), some (.ref (w.2.2 (i + 17 + 1 + 2 * (M.1 (i + 17) 0).toNatClampNeg))), some (.int (nI (m + 1)))] [] (za M (i + 17) (fun q => if q < m then M.1 (i + 17) (q + 1) else M.1 (i + 17) q)) := by
    intro j
    induction j with
    | zero =>
      intro m hm
      have hmn : m = 7 := by omega
      subst hmn
      refine z_iload_n F dX6_loseOldest_9 rfl ?_
      refine z_aload_n F dX6_loseOldest_10 rfl ?_
      refine zg_X6_past F (by with_reducible assumption) fl_X6_25 dX6_loseOldest_11 (fun hk_11 => ?_)
      refine z_alen18 F (by with_reducible assumption) dX6_loseOldest_14 ?_
      refine z_ic_ge (tgt := 38) F dX6_loseOldest_15 (by decide) (fun h_15 => ?_) (fun h_15 => absurd h_15 (by decide))
      refine z_aload_n F dX6_loseOldest_38 rfl ?_
      refine zg_X6_past F (by with_reducible assumption) fl_X6_25 dX6_loseOldest_39 (fun hk_39 => ?_)
      refine z_aload_n F dX6_loseOldest_42 rfl ?_
      refine zg_X6_past F (by with_reducible assumption) fl_X6_25 dX6_loseOldest_43 (fun hk_43 => ?_)
      refine z_alen18 F (by with_reducible assumption) dX6_loseOldest_46 ?_
      refine z_iconst (v := 1) F dX6_loseOldest_47 (by decide) ?_
      refine z_isub F dX6_loseOldest_48 ?_
      refine z_aload_n F dX6_loseOldest_49 rfl ?_
      refine z_aast18 F (by with_reducible assumption) (vpl 8 (by decide) (by decide)) (hp.lt (k := 0) (by decide)) dX6_loseOldest_50 ?_
      refine z_aload_n F dX6_loseOldest_51 rfl ?_
      refine z_aload_n F dX6_loseOldest_52 rfl ?_
      refine zg_X6_past F (by with_reducible assumption) fl_X6_25 dX6_loseOldest_53 (fun hk_53 => ?_)
      refine z_alen18 F (by with_reducible assumption) dX6_loseOldest_56 ?_
      refine z_iconst (v := 1) F dX6_loseOldest_57 (by decide) ?_
      refine z_isub F dX6_loseOldest_58 ?_
      refine zp_X6_known F (by with_reducible assumption) fl_X6_36 dX6_loseOldest_59 ?_
      refine z_vret F X dX6_loseOldest_62 ?_
      show zs (zs (za M (i + 17) (fun q => if q < 7 then M.1 (i + 17) (q + 1) else M.1 (i + 17) q)) (i + 17) 7 (nI (M.1 (i + 17) 0).toNatClampNeg)) i 3 7 = _
      rw [hp.n (by decide)]
      simp only [zs_za, za_za, za_at]
      have e : va_up (fun q => if q < 7 then M.1 (i + 17) (q + 1) else M.1 (i + 17) q) 7 (M.1 (i + 17) 0) = rotF (M.1 (i + 17)) := by
        funext q
        unfold va_up rotF
        by_cases h7 : q = 7
        · subst h7; simp
        · rw [if_neg h7, if_neg h7]
      rw [e]
    | succ j ih =>
      intro m hm
      have ih2 := ih (m + 1) (by omega)
      have hpin : vp_in (nI (m + 1)) 8 := vp_in_nI (by omega) (by decide)
      have hpc : (nI (m + 1)).toNatClampNeg = m + 1 := nI_clamp (by omega)
      have hpm : (nI m).toNatClampNeg = m := nI_clamp (by omega)
      refine z_iload_n F dX6_loseOldest_9 rfl ?_
      refine z_aload_n F dX6_loseOldest_10 rfl ?_
      refine zg_X6_past F (by with_reducible assumption) fl_X6_25 dX6_loseOldest_11 (fun hk_11 => ?_)
      refine z_alen18 F (by with_reducible assumption) dX6_loseOldest_14 ?_
      refine z_ic_ge (tgt := 38) F dX6_loseOldest_15 (by decide) (fun h_15 => absurd h_15 (Int32.not_le.mpr (nI_lt (b := 8) (by omega) (by decide)))) (fun h_15 => ?_)
      refine z_aload_n F dX6_loseOldest_18 rfl ?_
      refine zg_X6_past F (by with_reducible assumption) fl_X6_25 dX6_loseOldest_19 (fun hk_19 => ?_)
      refine z_iload_n F dX6_loseOldest_22 rfl ?_
      refine z_iconst (v := 1) F dX6_loseOldest_23 (by decide) ?_
      refine z_isub F dX6_loseOldest_24 ?_
      rw [nI_pred]
      refine z_aload_n F dX6_loseOldest_25 rfl ?_
      refine zg_X6_past F (by with_reducible assumption) fl_X6_25 dX6_loseOldest_26 (fun hk_26 => ?_)
      refine z_iload_n F dX6_loseOldest_29 rfl ?_
      refine z_aald18 F (by with_reducible assumption) hpin dX6_loseOldest_30 ?_
      rw [za_at, hpc, if_neg (by omega)]
      refine z_aast18 F (by with_reducible assumption) (vp_in_nI (by omega) (by decide)) (hp.lt (k := m + 1) (by omega)) dX6_loseOldest_31 ?_
      refine z_iincc (c := 1) (lv' := [_, _, _]) F dX6_loseOldest_32 rfl (by decide) (by decide) rfl rfl ?_
      refine z_goto (tgt := 9) F dX6_loseOldest_35 (by decide) ?_
      rw [nI_1, hpm, hp.n (by omega), zs_za, za_za, za_at]
      have e : va_up (fun q => if q < m then M.1 (i + 17) (q + 1) else M.1 (i + 17) q) m (M.1 (i + 17) (m + 1)) = (fun q => if q < m + 1 then M.1 (i + 17) (q + 1) else M.1 (i + 17) q) := by
        funext q
        unfold va_up
        by_cases h7 : q = m
        · subst h7; rw [if_pos rfl, if_pos (by omega)]
        · rw [if_neg h7]
          show (if q < m then M.1 (i + 17) (q + 1) else M.1 (i + 17) q) = _
          by_cases h8 : q < m
          · rw [if_pos h8, if_pos (by omega)]
          · rw [if_neg h8, if_neg (by omega)]
      rw [e]
      exact ih2
  refine z_aload_n F dX6_loseOldest_0 rfl ?_
  refine zg_X6_past F (by with_reducible assumption) fl_X6_25 dX6_loseOldest_1 (fun hk_1 => ?_)
  refine z_iconst (v := 0) F dX6_loseOldest_4 (by decide) ?_
  refine z_aald18 F (by with_reducible assumption) (vpl 8 (by decide) (by decide)) dX6_loseOldest_5 ?_
  refine z_astore_n (lv' := [_, _, _]) F dX6_loseOldest_6 (by decide) rfl rfl ?_
  refine z_iconst (v := 1) F dX6_loseOldest_7 (by decide) ?_
  refine z_istore_n (lv' := [_, _, _]) F dX6_loseOldest_8 (by decide) rfl rfl ?_
  have k0 := key 7 0 (by omega)
  have e : (fun q => if q < 0 then M.1 (i + 17) (q + 1) else M.1 (i + 17) q) = M.1 (i + 17) := by funext q; rw [if_neg (by omega)]
  rw [e, za_self] at k0
  exact k0
/-- a milestone is remembered: k of them were -/
def remF (M : zM) (i k : Nat) : zM :=
  if k < 8 then zs (za M (i + 18 + 2 * (M.1 (i + 17) k).toNatClampNeg) (M.1 (i + 15))) i 3 (nI (k + 1))
  else zs (za (za M (i + 17) (rotF (M.1 (i + 17)))) (i + 18 + 2 * (M.1 (i + 17) 0).toNatClampNeg) (M.1 (i + 15))) i 3 8
theorem c_X6_remember {l : Launch} {w : zE} (J : zJ w) {M : zM} {i k : Nat} (hk : zk i = 6) (hp : pmF (M.1 (i + 17))) (hn : M.1 i 3 = nI k) (h8 : k ≤ 8) : zCv l w yX6_remember cX6_remember 1 2 [.ref (w.2.2 i)] M (fun M2 => M2 = remF M i k) := by
  obtain ⟨k1, k15, k17⟩ := zkf6 i (zk_i hk (by decide)) hk
  have kp := zkf18 (i + 17) (zk_i k17 (by decide)) k17
  refine zCv_of J zm_X6_remember [some (.ref (w.2.2 i))] (Nat.le_of_ble_eq_true rfl) rfl (fun g hg F X => ?_)
  subst hg
  by_cases hc : k < 8
  · have hpin : vp_in (nI k) 8 := vp_in_nI hc (by decide)
    have hpc : (nI k).toNatClampNeg = k := nI_clamp (by omega)
    have kt := kp _ (hp.lt hc)
    refine z_aload_n F dX6_remember_0 rfl ?_
    refine zg_X6_known F (by with_reducible assumption) fl_X6_36 dX6_remember_1 ?_
    try simp only [hn, za_off _ (show i ≠ i + 17 + 1 + 2 * (M.1 (i + 17) k).toNatClampNeg by omega)]
    refine z_aload_n F dX6_remember_4 rfl ?_
    refine zg_X6_past F (by with_reducible assumption) fl_X6_25 dX6_remember_5 (fun hk_5 => ?_)
    refine z_alen18 F (by with_reducible assumption) dX6_remember_8 ?_
    refine z_ic_lt (tgt := 16) F dX6_remember_9 (by decide) (fun h_9 => ?_) (fun h_9 => absurd h_9 (Int32.not_le.mpr (nI_lt (b := 8) hc (by decide))))
    refine z_aload_n F dX6_remember_16 rfl ?_
    refine zg_X6_past F (by with_reducible assumption) fl_X6_25 dX6_remember_17 (fun hk_17 => ?_)
    refine z_aload_n F dX6_remember_20 rfl ?_
    refine zg_X6_known F (by with_reducible assumption) fl_X6_36 dX6_remember_21 ?_
    try simp only [hn, za_off _ (show i ≠ i + 17 + 1 + 2 * (M.1 (i + 17) k).toNatClampNeg by omega)]
    refine z_aald18 F (by with_reducible assumption) hpin dX6_remember_24 ?_
    rw [hpc]
    refine z_aload_n F dX6_remember_25 rfl ?_
    refine zg_X6_trip F (by with_reducible assumption) fl_X6_21 dX6_remember_26 (fun hk_26 => ?_)
    refine z_callVv F (d_X5_setFrom J kt (by with_reducible assumption) (by omega)) zm_X5_setFrom zv_X5_setFrom ml_X6_33 kt (by decide) rfl rfl rfl (Nat.le_of_ble_eq_true rfl) dX6_remember_29 (by omega) (fun M_29 h_29 => ?_)
    replace h_29 := Eq.symm h_29
    subst h_29
    refine z_aload_n F dX6_remember_32 rfl ?_
    refine z_dup F dX6_remember_33 rfl ?_
    refine zg_X6_known F (by with_reducible assumption) fl_X6_36 dX6_remember_34 ?_
    try simp only [hn, za_off _ (show i ≠ i + 17 + 1 + 2 * (M.1 (i + 17) k).toNatClampNeg by omega)]
    refine z_iconst (v := 1) F dX6_remember_37 (by decide) ?_
    refine z_iadd F dX6_remember_38 ?_
    refine zp_X6_known F (by with_reducible assumption) fl_X6_36 dX6_remember_39 ?_
    refine z_vret F X dX6_remember_42 ?_
    rw [remF, if_pos hc, nI_1]
  · have hk8 : k = 8 := by omega
    subst hk8
    have kt := kp _ (hp.lt (k := 0) (by decide))
    have q1 : (zs (za M (i + 17) (rotF (M.1 (i + 17)))) i 3 7).1 i 3 = 7 := by rw [zs_at, va_up_self]
    have q2 : (zs (za M (i + 17) (rotF (M.1 (i + 17)))) i 3 7).1 (i + 17) = rotF (M.1 (i + 17)) := by rw [zs_off _ (by omega), za_at]
    have q3 : (zs (za M (i + 17) (rotF (M.1 (i + 17)))) i 3 7).1 (i + 15) = M.1 (i + 15) := by rw [zs_off _ (by omega), za_off _ (by omega)]
    have q4 : rotF (M.1 (i + 17)) 7 = M.1 (i + 17) 0 := rfl
    refine z_aload_n F dX6_remember_0 rfl ?_
    refine zg_X6_known F (by with_reducible assumption) fl_X6_36 dX6_remember_1 ?_
    refine z_aload_n F dX6_remember_4 rfl ?_
    refine zg_X6_past F (by with_reducible assumption) fl_X6_25 dX6_remember_5 (fun hk_5 => ?_)
    refine z_alen18 F (by with_reducible assumption) dX6_remember_8 ?_
    refine z_ic_lt (tgt := 16) F dX6_remember_9 (by decide) (fun h_9 => absurd h_9 (by rw [hn]; decide)) (fun h_9 => ?_)
    refine z_aload_n F dX6_remember_12 rfl ?_
    refine z_callVv F (c_X6_loseOldest J hk hp) zm_X6_loseOldest zv_X6_loseOldest ml_X6_40 (by with_reducible assumption) (by decide) rfl rfl rfl (Nat.le_of_ble_eq_true rfl) dX6_remember_13 (by omega) (fun M_13 h_13 => ?_)
    replace h_13 := Eq.symm h_13
    subst h_13
    refine z_aload_n F dX6_remember_16 rfl ?_
    refine zg_X6_past F (by with_reducible assumption) fl_X6_25 dX6_remember_17 (fun hk_17 => ?_)
    refine z_aload_n F dX6_remember_20 rfl ?_
    refine zg_X6_known F (by with_reducible assumption) fl_X6_36 dX6_remember_21 ?_
    rw [q1]
    refine z_aald18 F (by with_reducible assumption) (vpl 8 (by decide) (by decide)) dX6_remember_24 ?_
    show ZW w g 1 25 _ (.ref (w.2.2 (i + 17 + 1 + 2 * ((zs (za M (i + 17) (rotF (M.1 (i + 17)))) i 3 7).1 (i + 17) 7).toNatClampNeg)) :: _) _
    rw [q2, q4]
    refine z_aload_n F dX6_remember_25 rfl ?_
    refine zg_X6_trip F (by with_reducible assumption) fl_X6_21 dX6_remember_26 (fun hk_26 => ?_)
    refine z_callVv F (d_X5_setFrom J kt (by with_reducible assumption) (by omega)) zm_X5_setFrom zv_X5_setFrom ml_X6_33 kt (by decide) rfl rfl rfl (Nat.le_of_ble_eq_true rfl) dX6_remember_29 (by omega) (fun M_29 h_29 => ?_)
    replace h_29 := Eq.symm h_29
    subst h_29
    refine z_aload_n F dX6_remember_32 rfl ?_
    refine z_dup F dX6_remember_33 rfl ?_
    refine zg_X6_known F (by with_reducible assumption) fl_X6_36 dX6_remember_34 ?_
    refine z_iconst (v := 1) F dX6_remember_37 (by decide) ?_
    refine z_iadd F dX6_remember_38 ?_
    refine zp_X6_known F (by with_reducible assumption) fl_X6_36 dX6_remember_39 ?_
    refine z_vret F X dX6_remember_42 ?_
    rw [q3, za_off _ (show i ≠ i + 17 + 1 + 2 * (M.1 (i + 17) 0).toNatClampNeg by omega), q1, remF, if_neg (by decide)]
    have e : i + 17 + 1 + 2 * (M.1 (i + 17) 0).toNatClampNeg = i + 18 + 2 * (M.1 (i + 17) 0).toNatClampNeg := by omega
    rw [e]
    rw [zs_za, zs_za, zs_za]
    rw [za_swap _ _ _ (show i ≠ i + 18 + 2 * (M.1 (i + 17) 0).toNatClampNeg by omega), za_za]
    simp only [za_at, za_off _ (show i ≠ i + 18 + 2 * (M.1 (i + 17) 0).toNatClampNeg by omega), za_off _ (show i ≠ i + 17 by omega), bx_uu]
    rfl
theorem c_X6_stepBack {l : Launch} {w : zE} (J : zJ w) {M : zM} {i k : Nat} (hk : zk i = 6) (hp : pmF (M.1 (i + 17))) (hn : M.1 i 3 = nI (k + 1)) (h8 : k < 8) : zCv l w yX6_stepBack cX6_stepBack 1 2 [.ref (w.2.2 i)] M (fun M2 => M2 = za (zs M i 3 (nI k)) (i + 15) (M.1 (i + 18 + 2 * (M.1 (i + 17) k).toNatClampNeg))) := by
  obtain ⟨k1, k15, k17⟩ := zkf6 i (zk_i hk (by decide)) hk
  have kp := zkf18 (i + 17) (zk_i k17 (by decide)) k17
  have hpin : vp_in (nI k) 8 := vp_in_nI h8 (by decide)
  have hpc : (nI k).toNatClampNeg = k := nI_clamp (by omega)
  have kt := kp _ (hp.lt h8)
  have e : i + 17 + 1 + 2 * (M.1 (i + 17) k).toNatClampNeg = i + 18 + 2 * (M.1 (i + 17) k).toNatClampNeg := by omega
  refine zCv_of J zm_X6_stepBack [some (.ref (w.2.2 i))] (Nat.le_of_ble_eq_true rfl) rfl (fun g hg F X => ?_)
  subst hg
  refine z_aload_n F dX6_stepBack_0 rfl ?_
  refine zg_X6_known F (by with_reducible assumption) fl_X6_36 dX6_stepBack_1 ?_
  try simp only [hn, nI_pred, zs_at, va_up_self, zs_off _ (show i + 17 ≠ i by omega), hpc]
  refine z_if_le (tgt := 33) F dX6_stepBack_4 (by decide) (fun h_4 => absurd h_4 (nI_nle (by omega) (by omega))) (fun h_4 => ?_)
  refine z_aload_n F dX6_stepBack_7 rfl ?_
  refine z_dup F dX6_stepBack_8 rfl ?_
  refine zg_X6_known F (by with_reducible assumption) fl_X6_36 dX6_stepBack_9 ?_
  try simp only [hn, nI_pred, zs_at, va_up_self, zs_off _ (show i + 17 ≠ i by omega), hpc]
  refine z_iconst (v := 1) F dX6_stepBack_12 (by decide) ?_
  refine z_isub F dX6_stepBack_13 ?_
  refine zp_X6_known F (by with_reducible assumption) fl_X6_36 dX6_stepBack_14 ?_
  refine z_aload_n F dX6_stepBack_17 rfl ?_
  refine zg_X6_trip F (by with_reducible assumption) fl_X6_21 dX6_stepBack_18 (fun hk_18 => ?_)
  refine z_aload_n F dX6_stepBack_21 rfl ?_
  refine zg_X6_past F (by with_reducible assumption) fl_X6_25 dX6_stepBack_22 (fun hk_22 => ?_)
  refine z_aload_n F dX6_stepBack_25 rfl ?_
  refine zg_X6_known F (by with_reducible assumption) fl_X6_36 dX6_stepBack_26 ?_
  try simp only [hn, nI_pred, zs_at, va_up_self, zs_off _ (show i + 17 ≠ i by omega), hpc]
  refine z_aald18 F (by with_reducible assumption) hpin dX6_stepBack_29 ?_
  rw [zs_off _ (show i + 17 ≠ i by omega), hpc]
  refine z_callVv F (d_X5_setFrom J (by with_reducible assumption) kt (by omega)) zm_X5_setFrom zv_X5_setFrom ml_X6_33 (by with_reducible assumption) (by decide) rfl rfl rfl (Nat.le_of_ble_eq_true rfl) dX6_stepBack_30 (by omega) (fun M_30 h_30 => ?_)
  replace h_30 := Eq.symm h_30
  subst h_30
  refine z_vret F X dX6_stepBack_33 ?_
  rw [zs_off _ (by omega), e]
/-- past trips of i2 over those of i, q of them -/
def cpP (B : zM) (i i2 : Nat) : Nat → zM
  | 0 => B
  | q + 1 => za (cpP B i i2 q) (i + 18 + 2 * (B.1 (i + 17) q).toNatClampNeg) (B.1 (i2 + 18 + 2 * (B.1 (i2 + 17) q).toNatClampNeg))
theorem cpP_2 (B : zM) (i i2 : Nat) : ∀ q, (cpP B i i2 q).2 = B.2
  | 0 => rfl
  | q + 1 => cpP_2 B i i2 q
theorem cpP_off {B : zM} {i i2 : Nat} (hp : pmF (B.1 (i + 17))) : ∀ (q : Nat) {b : Nat}, q ≤ 8 → (b < i + 18 ∨ i + 34 ≤ b) → (cpP B i i2 q).1 b = B.1 b
  | 0, _, _, _ => rfl
  | q + 1, b, hq, hb => by
    have := hp.lt (k := q) (by omega)
    rw [cpP, za_off _ (by omega)]
    exact cpP_off hp q (by omega) hb
theorem cpP_at {B : zM} {i i2 : Nat} (hp : pmF (B.1 (i + 17))) : ∀ (q k : Nat), q ≤ 8 → k < q → (cpP B i i2 q).1 (i + 18 + 2 * (B.1 (i + 17) k).toNatClampNeg) = B.1 (i2 + 18 + 2 * (B.1 (i2 + 17) k).toNatClampNeg)
  | 0, k, _, h => absurd h (Nat.not_lt_zero k)
  | q + 1, k, hq, h => by
    by_cases e : k = q
    · subst e
      rw [cpP, za_at]
    · have n : (B.1 (i + 17) k).toNatClampNeg ≠ (B.1 (i + 17) q).toNatClampNeg := fun z => e (hp.inj (by omega) (by omega) z)
      rw [cpP, za_off _ (by omega)]
      exact cpP_at hp q k (by omega) (by omega)
/-- a world over another, but for its past -/
def wcF (M : zM) (i i2 : Nat) : zM := zs (za (zrd M (i + 1) (M.1 (i2 + 1)) (M.1 (i2 + 1 + 1)) (M.1 (i2 + 1 + 12))) (i + 15) (M.1 (i2 + 15))) i 3 (M.1 i2 3)
theorem wcF_off {M : zM} {i i2 b : Nat} (h : b ≠ i) (h1 : b ≠ i + 1) (h2 : b ≠ i + 1 + 1) (h3 : b ≠ i + 1 + 12) (h4 : b ≠ i + 15) : (wcF M i i2).1 b = M.1 b := by unfold wcF zrd; rw [zs_off _ h, za_off _ h4, za_off _ h1, za_off _ h3, za_off _ h2]
theorem c_X6_setFrom {l : Launch} {w : zE} (J : zJ w) {M : zM} {i i2 k : Nat} (hk : zk i = 6) (hk2 : zk i2 = 6) (hi : i = 1 ∧ i2 = 35 ∨ i = 35 ∧ i2 = 1) (hp : pmF (M.1 (i + 17))) (hp2 : pmF (M.1 (i2 + 17))) (hn : M.1 i2 3 = nI k) (h8 : k ≤ 8) : zCv l w yX6_setFrom cX6_setFrom 3 2 [.ref (w.2.2 i), .ref (w.2.2 i2)] M (fun M2 => M2 = cpP (wcF M i i2) i i2 k) := by
  obtain ⟨k1, k15, k17⟩ := zkf6 i (zk_i hk (by decide)) hk
  obtain ⟨g1, g15, g17⟩ := zkf6 i2 (zk_i hk2 (by decide)) hk2
  have kp := zkf18 (i + 17) (zk_i k17 (by decide)) k17
  have gp := zkf18 (i2 + 17) (zk_i g17 (by decide)) g17
  have w0 : ∀ b, b ≠ i + 1 → b ≠ i + 1 + 1 → b ≠ i + 1 + 12 → (zrd M (i + 1) (M.1 (i2 + 1)) (M.1 (i2 + 1 + 1)) (M.1 (i2 + 1 + 12))).1 b = M.1 b := fun b h1 h2 h3 => by unfold zrd; rw [za_off _ h1, za_off _ h3, za_off _ h2]
  refine zCv_of J zm_X6_setFrom [some (.ref (w.2.2 i)), some (.ref (w.2.2 i2)), none] (Nat.le_of_ble_eq_true rfl) rfl (fun g hg F X => ?_)
  subst hg
  have b1 : (wcF M i i2).1 i 3 = nI k := by unfold wcF; rw [zs_at, va_up_self, hn]
  have b2 : (wcF M i i2).1 (i + 17) = M.1 (i + 17) := wcF_off (by omega) (by omega) (by omega) (by omega) (by omega)
  have b3 : (wcF M i i2).1 (i2 + 17) = M.1 (i2 + 17) := wcF_off (by omega) (by omega) (by omega) (by omega) (by omega)
  have key : ∀ (j q : Nat), q + j = k → ZW w g 3 32 [some (.ref (w.2.2 i)), some (.ref (w.2.2 i2)), some (.int (nI q))] [] (cpP (wcF M i i2) i i2 q) := by
    generalize wcF M i i2 = B at b1 b2 b3 X ⊢
    rw [← b2] at hp
    rw [← b3] at hp2
    intro j
    induction j with
    | zero =>
      intro q hq
      have hqk : q = k := by omega
      subst hqk
      have c1 : (cpP B i i2 q).1 i 3 = nI q := by rw [cpP_off hp q (by omega) (by omega), b1]
      refine z_iload_n F dX6_setFrom_32 rfl ?_
      refine z_aload_n F dX6_setFrom_33 rfl ?_
      refine zg_X6_known F (by with_reducible assumption) fl_X6_36 dX6_setFrom_34 ?_
      try simp only [c1]
      refine z_ic_ge (tgt := 61) F dX6_setFrom_37 (by decide) (fun h_37 => ?_) (fun h_37 => absurd h_37 (Int32.not_lt.mpr (nI_le (Nat.le_refl _) (by omega))))
      refine z_vret F X dX6_setFrom_61 ?_
      rfl
    | succ j ih =>
      intro q hq
      have c1 : (cpP B i i2 q).1 i 3 = nI k := by rw [cpP_off hp q (by omega) (by omega), b1]
      have c2 : (cpP B i i2 q).1 (i + 17) = B.1 (i + 17) := cpP_off hp q (by omega) (by omega)
      have c3 : (cpP B i i2 q).1 (i2 + 17) = B.1 (i2 + 17) := cpP_off hp q (by omega) (by omega)
      have lq := hp.lt (k := q) (by omega)
      have lq2 := hp2.lt (k := q) (by omega)
      have c4 : (cpP B i i2 q).1 (i2 + 18 + 2 * (B.1 (i2 + 17) q).toNatClampNeg) = B.1 (i2 + 18 + 2 * (B.1 (i2 + 17) q).toNatClampNeg) := cpP_off hp q (by omega) (by omega)
      have hpin : vp_in (nI q) 8 := vp_in_nI (by omega) (by decide)
      have hpc : (nI q).toNatClampNeg = q := nI_clamp (by omega)
      have kt := kp _ lq
      have gt := gp _ lq2
      have e1 : i + 17 + 1 + 2 * (B.1 (i + 17) q).toNatClampNeg = i + 18 + 2 * (B.1 (i + 17) q).toNatClampNeg := by omega
      have e2 : i2 + 17 + 1 + 2 * (B.1 (i2 + 17) q).toNatClampNeg = i2 + 18 + 2 * (B.1 (i2 + 17) q).toNatClampNeg := by omega
      rw [e1] at kt
      rw [e2] at gt
      have ih2 := ih (q + 1) (by omega)
      rw [cpP] at ih2
      refine z_iload_n F dX6_setFrom_32 rfl ?_
      refine z_aload_n F dX6_setFrom_33 rfl ?_
      refine zg_X6_known F (by with_reducible assumption) fl_X6_36 dX6_setFrom_34 ?_
      try simp only [c1]
      refine z_ic_ge (tgt := 61) F dX6_setFrom_37 (by decide) (fun h_37 => absurd h_37 (Int32.not_le.mpr (nI_lt (by omega) (by omega)))) (fun h_37 => ?_)
      refine z_aload_n F dX6_setFrom_40 rfl ?_
      refine zg_X6_past F (by with_reducible assumption) fl_X6_25 dX6_setFrom_41 (fun hk_41 => ?_)
      refine z_iload_n F dX6_setFrom_44 rfl ?_
      refine z_aald18 F (by with_reducible assumption) hpin dX6_setFrom_45 ?_
      rw [hpc, c2, e1]
      refine z_aload_n F dX6_setFrom_46 rfl ?_
      refine zg_X6_past F (by with_reducible assumption) fl_X6_25 dX6_setFrom_47 (fun hk_47 => ?_)
      refine z_iload_n F dX6_setFrom_50 rfl ?_
      refine z_aald18 F (by with_reducible assumption) hpin dX6_setFrom_51 ?_
      rw [hpc, c3, e2]
      refine z_callVv F (d_X5_setFrom J kt gt (by omega)) zm_X5_setFrom zv_X5_setFrom ml_X6_33 kt (by decide) rfl rfl rfl (Nat.le_of_ble_eq_true rfl) dX6_setFrom_52 (by omega) (fun M_52 h_52 => ?_)
      replace h_52 := Eq.symm h_52
      subst h_52
      refine z_iincc (c := 1) (lv' := [_, _, _]) F dX6_setFrom_55 rfl (by decide) (by decide) rfl rfl ?_
      refine z_goto (tgt := 32) F dX6_setFrom_58 (by decide) ?_
      rw [nI_1, c4]
      exact ih2
  refine z_aload_n F dX6_setFrom_0 rfl ?_
  refine zg_X6_road F (by with_reducible assumption) fl_X6_12 dX6_setFrom_1 (fun hk_1 => ?_)
  refine z_aload_n F dX6_setFrom_4 rfl ?_
  refine zg_X6_road F (by with_reducible assumption) fl_X6_12 dX6_setFrom_5 (fun hk_5 => ?_)
  refine z_callVv F (d_X1_setFrom J (by with_reducible assumption) (by with_reducible assumption) (by omega)) zm_X1_setFrom zv_X1_setFrom ml_X6_29 (by with_reducible assumption) (by decide) rfl rfl rfl (Nat.le_of_ble_eq_true rfl) dX6_setFrom_8 (by omega) (fun M_8 h_8 => ?_)
  replace h_8 := Eq.symm h_8
  subst h_8
  refine z_aload_n F dX6_setFrom_11 rfl ?_
  refine zg_X6_trip F (by with_reducible assumption) fl_X6_21 dX6_setFrom_12 (fun hk_12 => ?_)
  refine z_aload_n F dX6_setFrom_15 rfl ?_
  refine zg_X6_trip F (by with_reducible assumption) fl_X6_21 dX6_setFrom_16 (fun hk_16 => ?_)
  refine z_callVv F (d_X5_setFrom J (by with_reducible assumption) (by with_reducible assumption) (by omega)) zm_X5_setFrom zv_X5_setFrom ml_X6_33 (by with_reducible assumption) (by decide) rfl rfl rfl (Nat.le_of_ble_eq_true rfl) dX6_setFrom_19 (by omega) (fun M_19 h_19 => ?_)
  replace h_19 := Eq.symm h_19
  subst h_19
  refine z_aload_n F dX6_setFrom_22 rfl ?_
  refine z_aload_n F dX6_setFrom_23 rfl ?_
  refine zg_X6_known F (by with_reducible assumption) fl_X6_36 dX6_setFrom_24 ?_
  refine zp_X6_known F (by with_reducible assumption) fl_X6_36 dX6_setFrom_27 ?_
  refine z_iconst (v := 0) F dX6_setFrom_30 (by decide) ?_
  refine z_istore_n (lv' := [_, _, _]) F dX6_setFrom_31 (by decide) rfl rfl ?_
  rw [za_off _ (show i2 ≠ i + 15 by omega), w0 _ (by omega) (by omega) (by omega), w0 _ (by omega) (by omega) (by omega)]
  exact key k 0 (by omega)
end
section
theorem dJ0_length_8abf5_0 : decode cJ0_length_8abf5 0 = .ok (.aload_n 0, 1) := by decide +kernel
theorem dJ0_length_8abf5_1 : decode cJ0_length_8abf5 1 = .ok (.getfield 9, 3) := by decide +kernel
theorem dJ0_length_8abf5_4 : decode cJ0_length_8abf5 4 = .ok (.arraylength, 1) := by decide +kernel
theorem dJ0_length_8abf5_5 : decode cJ0_length_8abf5 5 = .ok (.aload_n 0, 1) := by decide +kernel
theorem dJ0_length_8abf5_6 : decode cJ0_length_8abf5 6 = .ok (.invokevirtual 335, 3) := by decide +kernel
theorem dJ0_length_8abf5_9 : decode cJ0_length_8abf5 9 = .ok (.ishr, 1) := by decide +kernel
theorem dJ0_length_8abf5_10 : decode cJ0_length_8abf5 10 = .ok (.ireturn, 1) := by decide +kernel
theorem dJ0_indexOf_0f7a4_0 : decode cJ0_indexOf_0f7a4 0 = .ok (.aload_n 0, 1) := by decide +kernel
theorem dJ0_indexOf_0f7a4_1 : decode cJ0_indexOf_0f7a4 1 = .ok (.iload_n 1, 1) := by decide +kernel
theorem dJ0_indexOf_0f7a4_2 : decode cJ0_indexOf_0f7a4 2 = .ok (.iconst 0, 1) := by decide +kernel
theorem dJ0_indexOf_0f7a4_3 : decode cJ0_indexOf_0f7a4 3 = .ok (.invokevirtual 633, 3) := by decide +kernel
theorem dJ0_indexOf_0f7a4_6 : decode cJ0_indexOf_0f7a4 6 = .ok (.ireturn, 1) := by decide +kernel
theorem dJ0_indexOf_7cf53_0 : decode cJ0_indexOf_7cf53 0 = .ok (.aload_n 0, 1) := by decide +kernel
theorem dJ0_indexOf_7cf53_1 : decode cJ0_indexOf_7cf53 1 = .ok (.invokevirtual 492, 3) := by decide +kernel
theorem dJ0_indexOf_7cf53_4 : decode cJ0_indexOf_7cf53 4 = .ok (.ifCond .eq 19, 3) := by decide +kernel
theorem dJ0_indexOf_7cf53_7 : decode cJ0_indexOf_7cf53 7 = .ok (.aload_n 0, 1) := by decide +kernel
theorem dJ0_indexOf_7cf53_8 : decode cJ0_indexOf_7cf53 8 = .ok (.getfield 9, 3) := by decide +kernel
theorem dJ0_indexOf_7cf53_11 : decode cJ0_indexOf_7cf53 11 = .ok (.iload_n 1, 1) := by decide +kernel
theorem dJ0_indexOf_7cf53_12 : decode cJ0_indexOf_7cf53 12 = .ok (.iload_n 2, 1) := by decide +kernel
theorem dJ0_indexOf_7cf53_13 : decode cJ0_indexOf_7cf53 13 = .ok (.aload_n 0, 1) := by decide +kernel
theorem dJ0_indexOf_7cf53_14 : decode cJ0_indexOf_7cf53 14 = .ok (.invokevirtual 505, 3) := by decide +kernel
theorem dJ0_indexOf_7cf53_17 : decode cJ0_indexOf_7cf53 17 = .ok (.invokestatic 637, 3) := by decide +kernel
theorem dJ0_indexOf_7cf53_20 : decode cJ0_indexOf_7cf53 20 = .ok (.goto 16, 3) := by decide +kernel
theorem dJ0_indexOf_7cf53_23 : decode cJ0_indexOf_7cf53 23 = .ok (.aload_n 0, 1) := by decide +kernel
theorem dJ0_indexOf_7cf53_24 : decode cJ0_indexOf_7cf53 24 = .ok (.getfield 9, 3) := by decide +kernel
theorem dJ0_indexOf_7cf53_27 : decode cJ0_indexOf_7cf53 27 = .ok (.iload_n 1, 1) := by decide +kernel
theorem dJ0_indexOf_7cf53_28 : decode cJ0_indexOf_7cf53 28 = .ok (.iload_n 2, 1) := by decide +kernel
theorem dJ0_indexOf_7cf53_29 : decode cJ0_indexOf_7cf53 29 = .ok (.aload_n 0, 1) := by decide +kernel
theorem dJ0_indexOf_7cf53_30 : decode cJ0_indexOf_7cf53 30 = .ok (.invokevirtual 505, 3) := by decide +kernel
theorem dJ0_indexOf_7cf53_33 : decode cJ0_indexOf_7cf53 33 = .ok (.invokestatic 640, 3) := by decide +kernel
theorem dJ0_indexOf_7cf53_36 : decode cJ0_indexOf_7cf53 36 = .ok (.ireturn, 1) := by decide +kernel
theorem dJ0_coder_7d493_0 : decode cJ0_coder_7d493 0 = .ok (.getstatic 38, 3) := by decide +kernel
theorem dJ0_coder_7d493_3 : decode cJ0_coder_7d493 3 = .ok (.ifCond .eq 10, 3) := by decide +kernel
theorem dJ0_coder_7d493_6 : decode cJ0_coder_7d493 6 = .ok (.aload_n 0, 1) := by decide +kernel
theorem dJ0_coder_7d493_7 : decode cJ0_coder_7d493 7 = .ok (.getfield 15, 3) := by decide +kernel
theorem dJ0_coder_7d493_10 : decode cJ0_coder_7d493 10 = .ok (.goto 4, 3) := by decide +kernel
theorem dJ0_coder_7d493_13 : decode cJ0_coder_7d493 13 = .ok (.iconst 1, 1) := by decide +kernel
theorem dJ0_coder_7d493_14 : decode cJ0_coder_7d493 14 = .ok (.ireturn, 1) := by decide +kernel
theorem dJ0_isLatin1_aae02_0 : decode cJ0_isLatin1_aae02 0 = .ok (.getstatic 38, 3) := by decide +kernel
theorem dJ0_isLatin1_aae02_3 : decode cJ0_isLatin1_aae02 3 = .ok (.ifCond .eq 14, 3) := by decide +kernel
theorem dJ0_isLatin1_aae02_6 : decode cJ0_isLatin1_aae02 6 = .ok (.aload_n 0, 1) := by decide +kernel
theorem dJ0_isLatin1_aae02_7 : decode cJ0_isLatin1_aae02 7 = .ok (.getfield 15, 3) := by decide +kernel
theorem dJ0_isLatin1_aae02_10 : decode cJ0_isLatin1_aae02 10 = .ok (.ifCond .ne 7, 3) := by decide +kernel
theorem dJ0_isLatin1_aae02_13 : decode cJ0_isLatin1_aae02 13 = .ok (.iconst 1, 1) := by decide +kernel
theorem dJ0_isLatin1_aae02_14 : decode cJ0_isLatin1_aae02 14 = .ok (.goto 4, 3) := by decide +kernel
theorem dJ0_isLatin1_aae02_17 : decode cJ0_isLatin1_aae02 17 = .ok (.iconst 0, 1) := by decide +kernel
theorem dJ0_isLatin1_aae02_18 : decode cJ0_isLatin1_aae02 18 = .ok (.ireturn, 1) := by decide +kernel
theorem dJ0_checkBoundsBeginEnd_23922_0 : decode cJ0_checkBoundsBeginEnd_23922 0 = .ok (.iload_n 0, 1) := by decide +kernel
theorem dJ0_checkBoundsBeginEnd_23922_1 : decode cJ0_checkBoundsBeginEnd_23922 1 = .ok (.iload_n 1, 1) := by decide +kernel
theorem dJ0_checkBoundsBeginEnd_23922_2 : decode cJ0_checkBoundsBeginEnd_23922 2 = .ok (.iload_n 2, 1) := by decide +kernel
theorem dJ0_checkBoundsBeginEnd_23922_3 : decode cJ0_checkBoundsBeginEnd_23922 3 = .ok (.getstatic 1053, 3) := by decide +kernel
theorem dJ0_checkBoundsBeginEnd_23922_6 : decode cJ0_checkBoundsBeginEnd_23922 6 = .ok (.invokestatic 1062, 3) := by decide +kernel
theorem dJ0_checkBoundsBeginEnd_23922_9 : decode cJ0_checkBoundsBeginEnd_23922 9 = .ok (.pop, 1) := by decide +kernel
theorem dJ0_checkBoundsBeginEnd_23922_10 : decode cJ0_checkBoundsBeginEnd_23922 10 = .ok (.return_, 1) := by decide +kernel
theorem dJ1_canEncode_9a6ad_0 : decode cJ1_canEncode_9a6ad 0 = .ok (.iload_n 0, 1) := by decide +kernel
theorem dJ1_canEncode_9a6ad_1 : decode cJ1_canEncode_9a6ad 1 = .ok (.ifCond .lt 14, 3) := by decide +kernel
theorem dJ1_canEncode_9a6ad_4 : decode cJ1_canEncode_9a6ad 4 = .ok (.iload_n 0, 1) := by decide +kernel
theorem dJ1_canEncode_9a6ad_5 : decode cJ1_canEncode_9a6ad 5 = .ok (.sipush 255, 3) := by decide +kernel
theorem dJ1_canEncode_9a6ad_8 : decode cJ1_canEncode_9a6ad 8 = .ok (.if_icmp .gt 7, 3) := by decide +kernel
theorem dJ1_canEncode_9a6ad_11 : decode cJ1_canEncode_9a6ad 11 = .ok (.iconst 1, 1) := by decide +kernel
theorem dJ1_canEncode_9a6ad_12 : decode cJ1_canEncode_9a6ad 12 = .ok (.goto 4, 3) := by decide +kernel
theorem dJ1_canEncode_9a6ad_15 : decode cJ1_canEncode_9a6ad 15 = .ok (.iconst 0, 1) := by decide +kernel
theorem dJ1_canEncode_9a6ad_16 : decode cJ1_canEncode_9a6ad 16 = .ok (.ireturn, 1) := by decide +kernel
theorem dJ1_indexOf_4cfef_0 : decode cJ1_indexOf_4cfef 0 = .ok (.iload_n 1, 1) := by decide +kernel
theorem dJ1_indexOf_4cfef_1 : decode cJ1_indexOf_4cfef 1 = .ok (.invokestatic 88, 3) := by decide +kernel
theorem dJ1_indexOf_4cfef_4 : decode cJ1_indexOf_4cfef 4 = .ok (.ifCond .ne 5, 3) := by decide +kernel
theorem dJ1_indexOf_4cfef_7 : decode cJ1_indexOf_4cfef 7 = .ok (.iconst (-1), 1) := by decide +kernel
theorem dJ1_indexOf_4cfef_8 : decode cJ1_indexOf_4cfef 8 = .ok (.ireturn, 1) := by decide +kernel
theorem dJ1_indexOf_4cfef_9 : decode cJ1_indexOf_4cfef 9 = .ok (.iload_n 2, 1) := by decide +kernel
theorem dJ1_indexOf_4cfef_10 : decode cJ1_indexOf_4cfef 10 = .ok (.iconst 0, 1) := by decide +kernel
theorem dJ1_indexOf_4cfef_11 : decode cJ1_indexOf_4cfef 11 = .ok (.invokestatic 92, 3) := by decide +kernel
theorem dJ1_indexOf_4cfef_14 : decode cJ1_indexOf_4cfef 14 = .ok (.istore_n 2, 1) := by decide +kernel
theorem dJ1_indexOf_4cfef_15 : decode cJ1_indexOf_4cfef 15 = .ok (.iload_n 3, 1) := by decide +kernel
theorem dJ1_indexOf_4cfef_16 : decode cJ1_indexOf_4cfef 16 = .ok (.aload_n 0, 1) := by decide +kernel
theorem dJ1_indexOf_4cfef_17 : decode cJ1_indexOf_4cfef 17 = .ok (.arraylength, 1) := by decide +kernel
theorem dJ1_indexOf_4cfef_18 : decode cJ1_indexOf_4cfef 18 = .ok (.invokestatic 38, 3) := by decide +kernel
theorem dJ1_indexOf_4cfef_21 : decode cJ1_indexOf_4cfef 21 = .ok (.istore_n 3, 1) := by decide +kernel
theorem dJ1_indexOf_4cfef_22 : decode cJ1_indexOf_4cfef 22 = .ok (.iload_n 2, 1) := by decide +kernel
theorem dJ1_indexOf_4cfef_23 : decode cJ1_indexOf_4cfef 23 = .ok (.iload_n 3, 1) := by decide +kernel
theorem dJ1_indexOf_4cfef_24 : decode cJ1_indexOf_4cfef 24 = .ok (.if_icmp .lt 5, 3) := by decide +kernel
theorem dJ1_indexOf_4cfef_27 : decode cJ1_indexOf_4cfef 27 = .ok (.iconst (-1), 1) := by decide +kernel
theorem dJ1_indexOf_4cfef_28 : decode cJ1_indexOf_4cfef 28 = .ok (.ireturn, 1) := by decide +kernel
theorem dJ1_indexOf_4cfef_29 : decode cJ1_indexOf_4cfef 29 = .ok (.aload_n 0, 1) := by decide +kernel
theorem dJ1_indexOf_4cfef_30 : decode cJ1_indexOf_4cfef 30 = .ok (.iload_n 1, 1) := by decide +kernel
theorem dJ1_indexOf_4cfef_31 : decode cJ1_indexOf_4cfef 31 = .ok (.iload_n 2, 1) := by decide +kernel
theorem dJ1_indexOf_4cfef_32 : decode cJ1_indexOf_4cfef 32 = .ok (.iload_n 3, 1) := by decide +kernel
theorem dJ1_indexOf_4cfef_33 : decode cJ1_indexOf_4cfef 33 = .ok (.invokestatic 95, 3) := by decide +kernel
theorem dJ1_indexOf_4cfef_36 : decode cJ1_indexOf_4cfef 36 = .ok (.ireturn, 1) := by decide +kernel
theorem dJ1_indexOfChar_4cfef_0 : decode cJ1_indexOfChar_4cfef 0 = .ok (.iload_n 1, 1) := by decide +kernel
theorem dJ1_indexOfChar_4cfef_1 : decode cJ1_indexOfChar_4cfef 1 = .ok (.i2b, 1) := by decide +kernel
theorem dJ1_indexOfChar_4cfef_2 : decode cJ1_indexOfChar_4cfef 2 = .ok (.istore 4, 2) := by decide +kernel
theorem dJ1_indexOfChar_4cfef_4 : decode cJ1_indexOfChar_4cfef 4 = .ok (.iload_n 2, 1) := by decide +kernel
theorem dJ1_indexOfChar_4cfef_5 : decode cJ1_indexOfChar_4cfef 5 = .ok (.istore 5, 2) := by decide +kernel
theorem dJ1_indexOfChar_4cfef_7 : decode cJ1_indexOfChar_4cfef 7 = .ok (.iload 5, 2) := by decide +kernel
theorem dJ1_indexOfChar_4cfef_9 : decode cJ1_indexOfChar_4cfef 9 = .ok (.iload_n 3, 1) := by decide +kernel
theorem dJ1_indexOfChar_4cfef_10 : decode cJ1_indexOfChar_4cfef 10 = .ok (.if_icmp .ge 21, 3) := by decide +kernel
theorem dJ1_indexOfChar_4cfef_13 : decode cJ1_indexOfChar_4cfef 13 = .ok (.aload_n 0, 1) := by decide +kernel
theorem dJ1_indexOfChar_4cfef_14 : decode cJ1_indexOfChar_4cfef 14 = .ok (.iload 5, 2) := by decide +kernel
theorem dJ1_indexOfChar_4cfef_16 : decode cJ1_indexOfChar_4cfef 16 = .ok (.baload, 1) := by decide +kernel
theorem dJ1_indexOfChar_4cfef_17 : decode cJ1_indexOfChar_4cfef 17 = .ok (.iload 4, 2) := by decide +kernel
theorem dJ1_indexOfChar_4cfef_19 : decode cJ1_indexOfChar_4cfef 19 = .ok (.if_icmp .ne 6, 3) := by decide +kernel
theorem dJ1_indexOfChar_4cfef_22 : decode cJ1_indexOfChar_4cfef 22 = .ok (.iload 5, 2) := by decide +kernel
theorem dJ1_indexOfChar_4cfef_24 : decode cJ1_indexOfChar_4cfef 24 = .ok (.ireturn, 1) := by decide +kernel
theorem dJ1_indexOfChar_4cfef_25 : decode cJ1_indexOfChar_4cfef 25 = .ok (.iinc 5 1, 3) := by decide +kernel
theorem dJ1_indexOfChar_4cfef_28 : decode cJ1_indexOfChar_4cfef 28 = .ok (.goto (-21), 3) := by decide +kernel
theorem dJ1_indexOfChar_4cfef_31 : decode cJ1_indexOfChar_4cfef 31 = .ok (.iconst (-1), 1) := by decide +kernel
theorem dJ1_indexOfChar_4cfef_32 : decode cJ1_indexOfChar_4cfef 32 = .ok (.ireturn, 1) := by decide +kernel
theorem dJ7_fill_d0a16_0 : decode cJ7_fill_d0a16 0 = .ok (.iconst 0, 1) := by decide +kernel
theorem dJ7_fill_d0a16_1 : decode cJ7_fill_d0a16 1 = .ok (.istore_n 3, 1) := by decide +kernel
theorem dJ7_fill_d0a16_2 : decode cJ7_fill_d0a16 2 = .ok (.aload_n 0, 1) := by decide +kernel
theorem dJ7_fill_d0a16_3 : decode cJ7_fill_d0a16 3 = .ok (.arraylength, 1) := by decide +kernel
theorem dJ7_fill_d0a16_4 : decode cJ7_fill_d0a16 4 = .ok (.istore 4, 2) := by decide +kernel
theorem dJ7_fill_d0a16_6 : decode cJ7_fill_d0a16 6 = .ok (.iload_n 3, 1) := by decide +kernel
theorem dJ7_fill_d0a16_7 : decode cJ7_fill_d0a16 7 = .ok (.iload 4, 2) := by decide +kernel
theorem dJ7_fill_d0a16_9 : decode cJ7_fill_d0a16 9 = .ok (.if_icmp .ge 13, 3) := by decide +kernel
theorem dJ7_fill_d0a16_12 : decode cJ7_fill_d0a16 12 = .ok (.aload_n 0, 1) := by decide +kernel
theorem dJ7_fill_d0a16_13 : decode cJ7_fill_d0a16 13 = .ok (.iload_n 3, 1) := by decide +kernel
theorem dJ7_fill_d0a16_14 : decode cJ7_fill_d0a16 14 = .ok (.lload_n 1, 1) := by decide +kernel
theorem dJ7_fill_d0a16_15 : decode cJ7_fill_d0a16 15 = .ok (.lastore, 1) := by decide +kernel
theorem dJ7_fill_d0a16_16 : decode cJ7_fill_d0a16 16 = .ok (.iinc 3 1, 3) := by decide +kernel
theorem dJ7_fill_d0a16_19 : decode cJ7_fill_d0a16 19 = .ok (.goto (-13), 3) := by decide +kernel
theorem dJ7_fill_d0a16_22 : decode cJ7_fill_d0a16 22 = .ok (.return_, 1) := by decide +kernel
end
section
theorem zn_sheet : ∀ s, s < 154 → zk s = 2 → zn (s + 1) = 16 := by decide +kernel
theorem c_J7_fill {l : Launch} {w : zE} (J : zJ w) {M : zM} {i : Nat} {v : Int64} (hk : zk i = 14) : zCv l w yJ7_fill_d0a16 cJ7_fill_d0a16 5 0 [.ref (w.2.2 i), .long v] M (fun M2 => M2 = zya M i (fun o => if o < zn i then v else M.2 i o)) := by
  have hz := zn_le i
  refine zCv_of J zm_J7_fill_d0a16 [some (.ref (w.2.2 i)), some (.long v), none, none, none] (Nat.le_of_ble_eq_true rfl) rfl (fun g hg F X => ?_)
  subst hg
  have key : ∀ (j k : Nat), k + j = zn i → ZW w g 5 6 [some (.ref (w.2.2 i)), some (.long v), none, some (.int (nI k)), some (.int (nI (zn i)))] [] (zya M i (fun o => if o < k then v else M.2 i o)) := by
    intro j
    induction j with
    | zero =>
      intro k hkj
      have hkn : k = zn i := by omega
      subst hkn
      refine z_iload_n F dJ7_fill_d0a16_6 rfl ?_
      refine z_iload F dJ7_fill_d0a16_7 rfl ?_
      refine z_ic_ge (tgt := 22) F dJ7_fill_d0a16_9 (by decide) (fun h_9 => ?_) (fun h_9 => absurd h_9 (Int32.not_lt.mpr (nI_le (Nat.le_refl _) (by omega))))
      refine z_vret F X dJ7_fill_d0a16_22 ?_
      rfl
    | succ j ih =>
      intro k hkj
      have ih2 := ih (k + 1) (by omega)
      have hpc : (nI k).toNatClampNeg = k := nI_clamp (by omega)
      refine z_iload_n F dJ7_fill_d0a16_6 rfl ?_
      refine z_iload F dJ7_fill_d0a16_7 rfl ?_
      refine z_ic_ge (tgt := 22) F dJ7_fill_d0a16_9 (by decide) (fun h_9 => absurd h_9 (Int32.not_le.mpr (nI_lt (by omega) (by omega)))) (fun h_9 => ?_)
      refine z_aload_n F dJ7_fill_d0a16_12 rfl ?_
      refine z_iload_n F dJ7_fill_d0a16_13 rfl ?_
      refine z_lload_n F dJ7_fill_d0a16_14 rfl ?_
      refine z_last14 F (by with_reducible assumption) (vp_in_nI (by omega) (by omega)) dJ7_fill_d0a16_15 ?_
      refine z_iincc (c := 1) (lv' := [_, _, _, _, _]) F dJ7_fill_d0a16_16 rfl (by decide) (by decide) rfl rfl ?_
      refine z_goto (tgt := 6) F dJ7_fill_d0a16_19 (by decide) ?_
      rw [nI_1, hpc]
      have e : zy (zya M i (fun o => if o < k then v else M.2 i o)) i k v = zya M i (fun o => if o < k + 1 then v else M.2 i o) := by
        unfold zy zya
        simp only [va_up_self, bx_uu]
        refine Prod.ext rfl (congrArg (va_up M.2 i) (funext fun o => ?_))
        unfold va_up
        by_cases h : o = k
        · subst h; rw [if_pos rfl, if_pos (by omega)]
        · rw [if_neg h]
          show (if o < k then v else M.2 i o) = _
          by_cases h2 : o < k
          · rw [if_pos h2, if_pos (by omega)]
          · rw [if_neg h2, if_neg (by omega)]
      rw [e]
      exact ih2
  refine z_iconst (v := 0) F dJ7_fill_d0a16_0 (by decide) ?_
  refine z_istore_n (lv' := [_, _, _, _, _]) F dJ7_fill_d0a16_1 (by decide) rfl rfl ?_
  refine z_aload_n F dJ7_fill_d0a16_2 rfl ?_
  refine z_alen14 F (by with_reducible assumption) dJ7_fill_d0a16_3 ?_
  refine z_istore (lv' := [_, _, _, _, _]) F dJ7_fill_d0a16_4 (by decide) rfl rfl ?_
  have k0 := key (zn i) 0 (by omega)
  have e : zya M i (fun o => if o < 0 then v else M.2 i o) = M := by
    unfold zya
    refine Prod.ext rfl ?_
    show va_up M.2 i (fun o => M.2 i o) = M.2
    exact va_up_id M.2 i
  rw [e] at k0
  exact k0
theorem c_X2_renew {l : Launch} {w : zE} (J : zJ w) {M : zM} {s : Nat} {ln n : Int32} (hk : zk s = 2) : zCv l w yX2_renew cX2_renew 3 1 [.ref (w.2.2 s), .int ln, .int n] M (fun M2 => M2 = zya (zs (zs (zs M s 0 1) s 1 ln) s 2 n) (s + 1) (fun _ => 0)) := by
  refine zCv_mono (p1 := fun M2 => M2 = zya (zs (zs (zs M s 0 1) s 1 ln) s 2 n) (s + 1) (fun o => if o < zn (s + 1) then 0 else M.2 (s + 1) o)) (fun M2 h => ⟨_, ?_, rfl⟩) ?_
  · rw [h]
    refine ⟨fun _ _ _ => rfl, fun i o ho => ?_⟩
    show va_up M.2 (s + 1) (fun _ => 0) i o = va_up M.2 (s + 1) (fun o => if o < zn (s + 1) then 0 else M.2 (s + 1) o) i o
    by_cases hi : i = s + 1
    · subst hi
      rw [va_up_self, va_up_self, if_pos ho]
    · rw [va_up_ne _ _ hi, va_up_ne _ _ hi]
  refine zCv_of J zm_X2_renew [some (.ref (w.2.2 s)), some (.int ln), some (.int n)] (Nat.le_of_ble_eq_true rfl) rfl (fun g hg F X => ?_)
  subst hg
  refine z_aload_n F dX2_renew_0 rfl ?_
  refine z_iconst (v := 1) F dX2_renew_1 (by decide) ?_
  refine zp_X2_isThere F (by with_reducible assumption) fl_X2_15 (by decide) (by decide) dX2_renew_2 ?_
  refine z_aload_n F dX2_renew_5 rfl ?_
  refine z_iload_n F dX2_renew_6 rfl ?_
  refine zp_X2_lane F (by with_reducible assumption) fl_X2_19 dX2_renew_7 ?_
  refine z_aload_n F dX2_renew_10 rfl ?_
  refine z_iload_n F dX2_renew_11 rfl ?_
  refine zp_X2_length F (by with_reducible assumption) fl_X2_23 dX2_renew_12 ?_
  refine z_aload_n F dX2_renew_15 rfl ?_
  refine zg_X2_items F (by with_reducible assumption) fl_X2_9 dX2_renew_16 (fun hk_16 => ?_)
  refine z_lconst (v := 0) F dX2_renew_19 (by decide) ?_
  refine z_callSv F (c_J7_fill J (by with_reducible assumption)) zm_J7_fill_d0a16 zst_J7_fill_d0a16 ml_X2_26 rfl rfl (Nat.le_of_ble_eq_true rfl) dX2_renew_20 (by omega) (fun M_20 h_20 => ?_)
  replace h_20 := Eq.symm h_20
  subst h_20
  refine z_vret F X dX2_renew_23 ?_
  rfl
theorem c_X2_hasRange {l : Launch} {w : zE} (J : zJ w) {M : zM} {s : Nat} {i n : Int32} (hk : zk s = 2) : zCi l w yX2_hasRange cX2_hasRange 3 (some .boolean) 0 [.ref (w.2.2 s), .int i, .int n] M (fun v M2 => M2 = M ∧ v = bI (0 ≤ i ∧ 0 ≤ n ∧ n ≤ M.1 s 2 ∧ i ≤ M.1 s 2 - n)) := by
  refine zCi_of J zm_X2_hasRange [some (.ref (w.2.2 s)), some (.int i), some (.int n)] (Nat.le_of_ble_eq_true rfl) rfl (fun g hg F X => ?_)
  subst hg
  refine z_iload_n F dX2_hasRange_0 rfl ?_
  refine z_if_lt (tgt := 30) F dX2_hasRange_1 (by decide) (fun h_1 => ?_) (fun h_1 => ?_)
  · refine z_iconst (v := 0) F dX2_hasRange_30 (by decide) ?_
    refine z_zret F X dX2_hasRange_31 (by decide) ?_
    refine ⟨rfl, ?_⟩
    first | exact bI_t ⟨h_1, h_5, h_13, h_23⟩ | exact bI_f (fun q => nle h_1 q.1) | exact bI_f (fun q => nle h_5 q.2.1) | exact bI_f (fun q => nle h_13 q.2.2.1) | exact bI_f (fun q => nle h_23 q.2.2.2)
  · refine z_iload_n F dX2_hasRange_4 rfl ?_
    refine z_if_lt (tgt := 30) F dX2_hasRange_5 (by decide) (fun h_5 => ?_) (fun h_5 => ?_)
    · refine z_iconst (v := 0) F dX2_hasRange_30 (by decide) ?_
      refine z_zret F X dX2_hasRange_31 (by decide) ?_
      refine ⟨rfl, ?_⟩
      first | exact bI_t ⟨h_1, h_5, h_13, h_23⟩ | exact bI_f (fun q => nle h_1 q.1) | exact bI_f (fun q => nle h_5 q.2.1) | exact bI_f (fun q => nle h_13 q.2.2.1) | exact bI_f (fun q => nle h_23 q.2.2.2)
    · refine z_iload_n F dX2_hasRange_8 rfl ?_
      refine z_aload_n F dX2_hasRange_9 rfl ?_
      refine zg_X2_length F (by with_reducible assumption) fl_X2_23 dX2_hasRange_10 ?_
      refine z_ic_gt (tgt := 30) F dX2_hasRange_13 (by decide) (fun h_13 => ?_) (fun h_13 => ?_)
      · refine z_iconst (v := 0) F dX2_hasRange_30 (by decide) ?_
        refine z_zret F X dX2_hasRange_31 (by decide) ?_
        refine ⟨rfl, ?_⟩
        first | exact bI_t ⟨h_1, h_5, h_13, h_23⟩ | exact bI_f (fun q => nle h_1 q.1) | exact bI_f (fun q => nle h_5 q.2.1) | exact bI_f (fun q => nle h_13 q.2.2.1) | exact bI_f (fun q => nle h_23 q.2.2.2)
      · refine z_iload_n F dX2_hasRange_16 rfl ?_
        refine z_aload_n F dX2_hasRange_17 rfl ?_
        refine zg_X2_length F (by with_reducible assumption) fl_X2_23 dX2_hasRange_18 ?_
        refine z_iload_n F dX2_hasRange_21 rfl ?_
        refine z_isub F dX2_hasRange_22 ?_
        refine z_ic_gt (tgt := 30) F dX2_hasRange_23 (by decide) (fun h_23 => ?_) (fun h_23 => ?_)
        · refine z_iconst (v := 0) F dX2_hasRange_30 (by decide) ?_
          refine z_zret F X dX2_hasRange_31 (by decide) ?_
          refine ⟨rfl, ?_⟩
          first | exact bI_t ⟨h_1, h_5, h_13, h_23⟩ | exact bI_f (fun q => nle h_1 q.1) | exact bI_f (fun q => nle h_5 q.2.1) | exact bI_f (fun q => nle h_13 q.2.2.1) | exact bI_f (fun q => nle h_23 q.2.2.2)
        · refine z_iconst (v := 1) F dX2_hasRange_26 (by decide) ?_
          refine z_goto (tgt := 31) F dX2_hasRange_27 (by decide) ?_
          refine z_zret F X dX2_hasRange_31 (by decide) ?_
          refine ⟨rfl, ?_⟩
          first | exact bI_t ⟨h_1, h_5, h_13, h_23⟩ | exact bI_f (fun q => nle h_1 q.1) | exact bI_f (fun q => nle h_5 q.2.1) | exact bI_f (fun q => nle h_13 q.2.2.1) | exact bI_f (fun q => nle h_23 q.2.2.2)
/-- the lowest bits of v that an item of a lane holds -/
def putF (ln : Int32) (v : Int64) : Int64 := if ln = 0 then v.toInt32.toInt8.toInt32.toInt64 else if ln = 1 then v.toInt32.toInt16.toInt32.toInt64 else if ln = 2 then v.toInt32.toInt64 else v
theorem c_X2_put {l : Launch} {w : zE} (J : zJ w) {M : zM} {s k : Nat} {v : Int64} (hk : zk s = 2) (h16 : k < 16) : zCv l w yX2_put cX2_put 4 0 [.ref (w.2.2 s), .int (nI k), .long v] M (fun M2 => M2 = zy M (s + 1) k (putF (M.1 s 1) v)) := by
  have hz := zn_sheet s (zk_i hk (by decide)) hk
  have hpc : (nI k).toNatClampNeg = k := nI_clamp (by omega)
  have hpin : vp_in (nI k) (zn (s + 1)) := vp_in_nI (by omega) (by omega)
  refine zCv_of J zm_X2_put [some (.ref (w.2.2 s)), some (.int (nI k)), some (.long v), none] (Nat.le_of_ble_eq_true rfl) rfl (fun g hg F X => ?_)
  subst hg
  refine z_iload_n F dX2_put_0 rfl ?_
  refine z_if_lt (tgt := 13) F dX2_put_1 (by decide) (fun h_1 => absurd h_1 (nI_pos (by omega))) (fun h_1 => ?_)
  refine z_iload_n F dX2_put_4 rfl ?_
  refine z_aload_n F dX2_put_5 rfl ?_
  refine zg_X2_items F (by with_reducible assumption) fl_X2_9 dX2_put_6 (fun hk_6 => ?_)
  refine z_alen14 F (by with_reducible assumption) dX2_put_9 ?_
  refine z_ic_lt (tgt := 14) F dX2_put_10 (by decide) (fun h_10 => ?_) (fun h_10 => absurd h_10 (Int32.not_le.mpr (by rw [hz]; exact nI_lt h16 (by decide))))
  refine z_aload_n F dX2_put_14 rfl ?_
  refine zg_X2_lane F (by with_reducible assumption) fl_X2_19 dX2_put_15 ?_
  refine z_tab3 F dX2_put_18 (tgt0 := 44) (tgt1 := 57) (tgt2 := 70) (dt := 82) (by decide) (by decide) (by decide) (by decide) (fun h_18 => ?_) (fun h_18 => ?_) (fun h_18 => ?_) (fun h_18_0 h_18_1 h_18_2 => ?_)
  · refine z_aload_n F dX2_put_44 rfl ?_
    refine zg_X2_items F (by with_reducible assumption) fl_X2_9 dX2_put_45 (fun hk_45 => ?_)
    refine z_iload_n F dX2_put_48 rfl ?_
    refine z_lload_n F dX2_put_49 rfl ?_
    refine z_l2i F dX2_put_50 ?_
    refine z_i2b F dX2_put_51 ?_
    refine z_i2l F dX2_put_52 ?_
    refine z_last14 F (by with_reducible assumption) hpin dX2_put_53 ?_
    refine z_goto (tgt := 89) F dX2_put_54 (by decide) ?_
    refine z_vret F X dX2_put_89 ?_
    rw [hpc]
    first | (simp only [putF, h_18, if_true]; done) | simp_all [putF]
  · refine z_aload_n F dX2_put_57 rfl ?_
    refine zg_X2_items F (by with_reducible assumption) fl_X2_9 dX2_put_58 (fun hk_58 => ?_)
    refine z_iload_n F dX2_put_61 rfl ?_
    refine z_lload_n F dX2_put_62 rfl ?_
    refine z_l2i F dX2_put_63 ?_
    refine z_i2s F dX2_put_64 ?_
    refine z_i2l F dX2_put_65 ?_
    refine z_last14 F (by with_reducible assumption) hpin dX2_put_66 ?_
    refine z_goto (tgt := 89) F dX2_put_67 (by decide) ?_
    refine z_vret F X dX2_put_89 ?_
    rw [hpc]
    first | (simp only [putF, h_18, if_true]; done) | simp_all [putF]
  · refine z_aload_n F dX2_put_70 rfl ?_
    refine zg_X2_items F (by with_reducible assumption) fl_X2_9 dX2_put_71 (fun hk_71 => ?_)
    refine z_iload_n F dX2_put_74 rfl ?_
    refine z_lload_n F dX2_put_75 rfl ?_
    refine z_l2i F dX2_put_76 ?_
    refine z_i2l F dX2_put_77 ?_
    refine z_last14 F (by with_reducible assumption) hpin dX2_put_78 ?_
    refine z_goto (tgt := 89) F dX2_put_79 (by decide) ?_
    refine z_vret F X dX2_put_89 ?_
    rw [hpc]
    first | (simp only [putF, h_18, if_true]; done) | simp_all [putF]
  · refine z_aload_n F dX2_put_82 rfl ?_
    refine zg_X2_items F (by with_reducible assumption) fl_X2_9 dX2_put_83 (fun hk_83 => ?_)
    refine z_iload_n F dX2_put_86 rfl ?_
    refine z_lload_n F dX2_put_87 rfl ?_
    refine z_last14 F (by with_reducible assumption) hpin dX2_put_88 ?_
    refine z_vret F X dX2_put_89 ?_
    rw [hpc]
    first | (simp only [putF, h_18, if_true]; done) | simp_all [putF]
end
section
/-- the next letter behind blanks: its place; the letter (0 at the end) -/
def nxP (L : zF1) : Nat → Nat → Nat
  | 0, p => p
  | j + 1, p => if L p = 32 then nxP L j (p + 1) else p
def chF (L : zF1) (len p : Nat) : Int32 := if p < len then L p else 0
theorem nxP_le (L : zF1) : ∀ (j p : Nat), p ≤ nxP L j p ∧ nxP L j p ≤ p + j
  | 0, p => ⟨Nat.le_refl _, Nat.le_refl _⟩
  | j + 1, p => by
    unfold nxP
    split
    · have := nxP_le L j (p + 1); omega
    · omega
/-- letters are small -/
def ltOK (L : zF1) (len : Nat) : Prop := ∀ q, q < len → ∃ c, c < 128 ∧ L q = nI c
theorem chF_n {L : zF1} {len : Nat} (h : ltOK L len) (p : Nat) : ∃ c, c < 128 ∧ chF L len p = nI c := by
  unfold chF
  split
  · next q => exact h p q
  · exact ⟨0, by omega, rfl⟩
theorem chF_nar {L : zF1} {len : Nat} (h : ltOK L len) (p : Nat) : narrow .char (.int (chF L len p)) = .int (chF L len p) := by
  obtain ⟨c, h1, h2⟩ := chF_n h p
  rw [h2]
  exact (pk_charN (by omega)).1
/-- the tape at tp: its length, how far it is read -/
def tpOK (M : zM) (tp len p : Nat) : Prop := M.1 tp 1 = nI len ∧ len ≤ 120 ∧ M.1 tp 2 = nI p ∧ p ≤ len ∧ ltOK (M.1 (tp + 1)) len
theorem zs_id {M : zM} {b o : Nat} {v : Int32} (h : M.1 b o = v) : zs M b o v = M := by rw [zs_za, ← h, va_up_id, za_self]
theorem zs_zs (M : zM) (b o : Nat) (u v : Int32) : zs (zs M b o u) b o v = zs M b o v := by rw [zs_za, zs_za, zs_za, za_at, bx_uu, za_za]
theorem tpOK.to {M : zM} {tp len p q : Nat} (h : tpOK M tp len p) (hq : q ≤ len) : tpOK (zs M tp 2 (nI q)) tp len q := by
  unfold tpOK at *
  rw [zs_at, va_up_ne _ _ (by decide), va_up_self, zs_off _ (by omega)]
  exact ⟨h.1, h.2.1, rfl, hq, h.2.2.2.2⟩
theorem c_X3_next {l : Launch} {w : zE} (J : zJ w) {M : zM} {tp len p : Nat} (hk : zk tp = 3) (ok : tpOK M tp len p) : zCi l w yX3_next cX3_next 1 (some .char) 0 [.ref (w.2.2 tp)] M (fun v M2 => M2 = zs M tp 2 (nI (nxP (M.1 (tp + 1)) (len - p) p)) ∧ v = chF (M.1 (tp + 1)) len (nxP (M.1 (tp + 1)) (len - p) p)) := by
  obtain ⟨o1, o2, o3, o4, o5⟩ := ok
  refine zCi_of J zm_X3_next [some (.ref (w.2.2 tp))] (Nat.le_of_ble_eq_true rfl) rfl (fun g hg F X => ?_)
  subst hg
  generalize hL : M.1 (tp + 1) = L at o5 X
  generalize hr : nxP L (len - p) p = r at X
  have hn1 : (tp + 1) ≠ tp := by omega
  have key : ∀ (j q : Nat), q + j = len → nxP L j q = r → ZW w g 1 0 [some (.ref (w.2.2 tp))] [] (zs M tp 2 (nI q)) := by
    intro j
    induction j with
    | zero =>
      intro q hq hs
      have hs : q = r := hs
      subst hs
      have hqn : q = len := by omega
      subst hqn
      have c1 : (zs M tp 2 (nI q)).1 tp 1 = nI q := by rw [zs_at, va_up_ne _ _ (by decide), o1]
      have c2 : (zs M tp 2 (nI q)).1 tp 2 = nI q := by rw [zs_at, va_up_self]
      refine z_aload_n F dX3_next_0 rfl ?_
      refine zg_X3_place F (by with_reducible assumption) fl_X3_29 dX3_next_1 ?_
      try simp only [c1, c2]
      refine z_aload_n F dX3_next_4 rfl ?_
      refine zg_X3_length F (by with_reducible assumption) fl_X3_106 dX3_next_5 ?_
      try simp only [c1, c2]
      refine z_ic_ge (tgt := 38) F dX3_next_8 (by decide) (fun h_8 => ?_) (fun h_8 => absurd h_8 (Int32.not_lt.mpr (nI_le (Nat.le_refl _) (by omega))))
      refine z_aload_n F dX3_next_38 rfl ?_
      refine zg_X3_place F (by with_reducible assumption) fl_X3_29 dX3_next_39 ?_
      try simp only [c1, c2]
      refine z_aload_n F dX3_next_42 rfl ?_
      refine zg_X3_length F (by with_reducible assumption) fl_X3_106 dX3_next_43 ?_
      try simp only [c1, c2]
      refine z_ic_ge (tgt := 61) F dX3_next_46 (by decide) (fun h_46 => ?_) (fun h_46 => absurd h_46 (Int32.not_lt.mpr (nI_le (Nat.le_refl _) (by omega))))
      refine z_iconst (v := 0) F dX3_next_61 (by decide) ?_
      refine z_zret F X dX3_next_62 (by rfl) ?_
      exact ⟨rfl, by rw [chF, if_neg (by omega)]⟩
    | succ j ih =>
      intro q hq hs
      have c1 : (zs M tp 2 (nI q)).1 tp 1 = nI len := by rw [zs_at, va_up_ne _ _ (by decide), o1]
      have c2 : (zs M tp 2 (nI q)).1 tp 2 = nI q := by rw [zs_at, va_up_self]
      have c3 : (zs M tp 2 (nI q)).1 (tp + 1) = L := by rw [zs_off _ hn1, hL]
      have hpin : vp_in (nI q) 120 := vp_in_nI (by omega) (by decide)
      have hpc : (nI q).toNatClampNeg = q := nI_clamp (by omega)
      have hc : chF L len q = L q := if_pos (by omega)
      rw [nxP] at hs
      refine z_aload_n F dX3_next_0 rfl ?_
      refine zg_X3_place F (by with_reducible assumption) fl_X3_29 dX3_next_1 ?_
      try simp only [c1, c2, c3, hpc]
      refine z_aload_n F dX3_next_4 rfl ?_
      refine zg_X3_length F (by with_reducible assumption) fl_X3_106 dX3_next_5 ?_
      try simp only [c1, c2, c3, hpc]
      refine z_ic_ge (tgt := 38) F dX3_next_8 (by decide) (fun h_8 => absurd h_8 (Int32.not_le.mpr (nI_lt (by omega) (by omega)))) (fun h_8 => ?_)
      refine z_aload_n F dX3_next_11 rfl ?_
      refine zg_X3_letters F (by with_reducible assumption) fl_X3_9 dX3_next_12 (fun hk_12 => ?_)
      refine z_aload_n F dX3_next_15 rfl ?_
      refine zg_X3_place F (by with_reducible assumption) fl_X3_29 dX3_next_16 ?_
      try simp only [c1, c2, c3, hpc]
      refine z_cald9 F (by with_reducible assumption) hpin dX3_next_19 ?_
      try simp only [c1, c2, c3, hpc]
      refine z_bipush (v := 32) F dX3_next_20 (by decide) ?_
      refine z_ic_ne (tgt := 38) F dX3_next_22 (by decide) (fun h_22 => ?_) (fun h_22 => ?_)
      · try simp only [c1, c2, c3, hpc] at h_22
        refine z_aload_n F dX3_next_38 rfl ?_
        refine zg_X3_place F (by with_reducible assumption) fl_X3_29 dX3_next_39 ?_
        try simp only [c1, c2, c3, hpc]
        refine z_aload_n F dX3_next_42 rfl ?_
        refine zg_X3_length F (by with_reducible assumption) fl_X3_106 dX3_next_43 ?_
        try simp only [c1, c2, c3, hpc]
        refine z_ic_ge (tgt := 61) F dX3_next_46 (by decide) (fun h_46 => absurd h_46 (Int32.not_le.mpr (nI_lt (by omega) (by omega)))) (fun h_46 => ?_)
        refine z_aload_n F dX3_next_49 rfl ?_
        refine zg_X3_letters F (by with_reducible assumption) fl_X3_9 dX3_next_50 (fun hk_50 => ?_)
        refine z_aload_n F dX3_next_53 rfl ?_
        refine zg_X3_place F (by with_reducible assumption) fl_X3_29 dX3_next_54 ?_
        try simp only [c1, c2, c3, hpc]
        refine z_cald9 F (by with_reducible assumption) hpin dX3_next_57 ?_
        try simp only [c1, c2, c3, hpc]
        refine z_goto (tgt := 62) F dX3_next_58 (by decide) ?_
        refine z_zret F X dX3_next_62 (by rw [← hc]; exact chF_nar o5 q) ?_
        rw [if_neg h_22] at hs
        subst hs
        exact ⟨rfl, hc.symm⟩
      · try simp only [c1, c2, c3, hpc] at h_22
        refine z_aload_n F dX3_next_25 rfl ?_
        refine z_dup F dX3_next_26 rfl ?_
        refine zg_X3_place F (by with_reducible assumption) fl_X3_29 dX3_next_27 ?_
        try simp only [c1, c2, c3, hpc]
        refine z_iconst (v := 1) F dX3_next_30 (by decide) ?_
        refine z_iadd F dX3_next_31 ?_
        refine zp_X3_place F (by with_reducible assumption) fl_X3_29 dX3_next_32 ?_
        refine z_goto (tgt := 0) F dX3_next_35 (by decide) ?_
        rw [if_pos h_22] at hs
        rw [zs_zs, nI_1]
        exact ih (q + 1) (by omega) hs
  have k0 := key (len - p) p (by omega) hr
  rw [zs_id o3] at k0
  exact k0
abbrev dgF (c : Int32) : Prop := 48 ≤ c ∧ c ≤ 57
theorem c_X3_isDigit {l : Launch} {w : zE} (J : zJ w) {M : zM} {c : Int32} : zCi l w yX3_isDigit cX3_isDigit 1 (some .boolean) 0 [.int c] M (fun v M2 => M2 = M ∧ v = bI (dgF c)) := by
  refine zCi_of J zm_X3_isDigit [some (.int c)] (Nat.le_of_ble_eq_true rfl) rfl (fun g hg F X => ?_)
  subst hg
  refine z_iload_n F dX3_isDigit_0 rfl ?_
  refine z_bipush (v := 48) F dX3_isDigit_1 (by decide) ?_
  refine z_ic_lt (tgt := 16) F dX3_isDigit_3 (by decide) (fun h_3 => ?_) (fun h_3 => ?_)
  · refine z_iconst (v := 0) F dX3_isDigit_16 (by decide) ?_
    refine z_zret F X dX3_isDigit_17 (by decide) ?_
    refine ⟨rfl, ?_⟩
    first | exact bI_t ⟨h_3, h_9⟩ | exact bI_f (fun q => nle h_3 q.1) | exact bI_f (fun q => nle h_9 q.2)
  · refine z_iload_n F dX3_isDigit_6 rfl ?_
    refine z_bipush (v := 57) F dX3_isDigit_7 (by decide) ?_
    refine z_ic_gt (tgt := 16) F dX3_isDigit_9 (by decide) (fun h_9 => ?_) (fun h_9 => ?_)
    · refine z_iconst (v := 0) F dX3_isDigit_16 (by decide) ?_
      refine z_zret F X dX3_isDigit_17 (by decide) ?_
      refine ⟨rfl, ?_⟩
      first | exact bI_t ⟨h_3, h_9⟩ | exact bI_f (fun q => nle h_3 q.1) | exact bI_f (fun q => nle h_9 q.2)
    · refine z_iconst (v := 1) F dX3_isDigit_12 (by decide) ?_
      refine z_goto (tgt := 17) F dX3_isDigit_13 (by decide) ?_
      refine z_zret F X dX3_isDigit_17 (by decide) ?_
      refine ⟨rfl, ?_⟩
      first | exact bI_t ⟨h_3, h_9⟩ | exact bI_f (fun q => nle h_3 q.1) | exact bI_f (fun q => nle h_9 q.2)
/-- a letter, if it stands next -/
def rdP (L : zF1) (len p : Nat) (c : Int32) : Nat := if chF L len (nxP L (len - p) p) = c then nxP L (len - p) p + 1 else nxP L (len - p) p
abbrev rdB (L : zF1) (len p : Nat) (c : Int32) : Prop := chF L len (nxP L (len - p) p) = c
theorem rdP_le {L : zF1} {len p : Nat} {c : Int32} (hp : p ≤ len) (hc : ¬ c = 0) : rdP L len p c ≤ len := by
  have := nxP_le L (len - p) p
  unfold rdP
  split
  · next h =>
    unfold chF at h
    split at h
    · omega
    · exact absurd h.symm hc
  · omega
theorem c_X3_reads {l : Launch} {w : zE} (J : zJ w) {M : zM} {tp len p : Nat} {c : Int32} (hk : zk tp = 3) (ok : tpOK M tp len p) : zCi l w yX3_reads cX3_reads 2 (some .boolean) 1 [.ref (w.2.2 tp), .int c] M (fun v M2 => M2 = zs M tp 2 (nI (rdP (M.1 (tp + 1)) len p c)) ∧ v = bI (rdB (M.1 (tp + 1)) len p c)) := by
  refine zCi_of J zm_X3_reads [some (.ref (w.2.2 tp)), some (.int c)] (Nat.le_of_ble_eq_true rfl) rfl (fun g hg F X => ?_)
  subst hg
  refine z_aload_n F dX3_reads_0 rfl ?_
  refine z_callVi F (c_X3_next J hk ok) zm_X3_next zv_X3_next ml_X3_61 (by with_reducible assumption) (by decide) rfl rfl rfl (Nat.le_of_ble_eq_true rfl) dX3_reads_1 (by omega) (fun r_1 M_1 h_1 => ?_)
  obtain ⟨e_1, rfl⟩ := h_1
  replace e_1 := Eq.symm e_1
  subst e_1
  refine z_iload_n F dX3_reads_4 rfl ?_
  refine z_ic_eq (tgt := 10) F dX3_reads_5 (by decide) (fun h_5 => ?_) (fun h_5 => ?_)
  · try simp only [zs_at, va_up_self] at h_5
    refine z_aload_n F dX3_reads_10 rfl ?_
    refine z_dup F dX3_reads_11 rfl ?_
    refine zg_X3_place F (by with_reducible assumption) fl_X3_29 dX3_reads_12 ?_
    try simp only [zs_at, va_up_self]
    refine z_iconst (v := 1) F dX3_reads_15 (by decide) ?_
    refine z_iadd F dX3_reads_16 ?_
    refine zp_X3_place F (by with_reducible assumption) fl_X3_29 dX3_reads_17 ?_
    refine z_iconst (v := 1) F dX3_reads_20 (by decide) ?_
    refine z_zret F X dX3_reads_21 (by decide) ?_
    rw [zs_zs, nI_1]
    exact ⟨by rw [rdP, if_pos h_5], bI_t h_5⟩
  · try simp only [zs_at, va_up_self] at h_5
    refine z_iconst (v := 0) F dX3_reads_8 (by decide) ?_
    refine z_zret F X dX3_reads_9 (by decide) ?_
    exact ⟨by rw [rdP, if_neg h_5], bI_f h_5⟩
/-- the digits of a number, which stays below the most + 2 -/
def nmP (L : zF1) (most : Int32) : Nat → Nat → Int32 → Int32 × Nat
  | 0, p, n => (n, p)
  | j + 1, p, n => if dgF (L p) then nmP L most j (p + 1) (if most + 1 < n * 10 + L p - 48 then most + 1 else n * 10 + L p - 48) else (n, p)
theorem nmP_le (L : zF1) (most : Int32) : ∀ (j p : Nat) (n : Int32), (nmP L most j p n).2 ≤ p + j
  | 0, p, n => Nat.le_refl _
  | j + 1, p, n => by
    unfold nmP
    split
    · have := nmP_le L most j (p + 1) (if most + 1 < n * 10 + L p - 48 then most + 1 else n * 10 + L p - 48); omega
    · show p ≤ _; omega
/-- a number up to the most, and the place behind it; or -1, and its own place -/
def numF (L : zF1) (len p : Nat) (most : Int32) : Int32 × Nat :=
  if dgF (chF L len (nxP L (len - p) p)) then
    (if most < (nmP L most (len - nxP L (len - p) p) (nxP L (len - p) p) 0).1 then (-1, nxP L (len - p) p) else nmP L most (len - nxP L (len - p) p) (nxP L (len - p) p) 0)
  else (-1, nxP L (len - p) p)
theorem numF_le {L : zF1} {len p : Nat} {most : Int32} (hp : p ≤ len) : (numF L len p most).2 ≤ len := by
  have := nxP_le L (len - p) p
  unfold numF
  split
  · split
    · show nxP L (len - p) p ≤ len; omega
    · have := nmP_le L most (len - nxP L (len - p) p) (nxP L (len - p) p) 0; omega
  · show nxP L (len - p) p ≤ len; omega
theorem c_X3_readNumber {l : Launch} {w : zE} (J : zJ w) {M : zM} {tp len p : Nat} {most : Int32} (hk : zk tp = 3) (ok : tpOK M tp len p) : zCi l w yX3_readNumber cX3_readNumber 4 (some .int) 1 [.ref (w.2.2 tp), .int most] M (fun v M2 => M2 = zs M tp 2 (nI (numF (M.1 (tp + 1)) len p most).2) ∧ v = (numF (M.1 (tp + 1)) len p most).1) := by
  obtain ⟨o1, o2, o3, o4, o5⟩ := id ok
  have hn1 : (tp + 1) ≠ tp := by omega
  refine zCi_of J zm_X3_readNumber [some (.ref (w.2.2 tp)), some (.int most), none, none] (Nat.le_of_ble_eq_true rfl) rfl (fun g hg F X => ?_)
  subst hg
  have hqle := nxP_le (M.1 (tp + 1)) (len - p) p
  generalize hL : M.1 (tp + 1) = L at o5 X hqle
  generalize hq : nxP L (len - p) p = q0 at hqle
  have key : dgF (chF L len q0) → ∀ (j q : Nat) (n : Int32), q + j = len → nmP L most j q n = nmP L most (len - q0) q0 0 → ZW w g 4 19 [some (.ref (w.2.2 tp)), some (.int most), some (.int (nI q0)), some (.int n)] [] (zs M tp 2 (nI q)) := by
    intro hdg
    have hfin : numF L len p most = if most < (nmP L most (len - q0) q0 0).1 then (-1, q0) else nmP L most (len - q0) q0 0 := by
      unfold numF
      rw [hq, if_pos hdg]
    intro j
    induction j with
    | zero =>
      intro q n hqj hs
      have hqn : q = len := by omega
      subst hqn
      have c1 : (zs M tp 2 (nI q)).1 tp 1 = nI q := by rw [zs_at, va_up_ne _ _ (by decide), o1]
      have c2 : (zs M tp 2 (nI q)).1 tp 2 = nI q := by rw [zs_at, va_up_self]
      have hs : (n, q) = nmP L most (q - q0) q0 0 := hs
      rw [← hs] at hfin
      refine z_aload_n F dX3_readNumber_19 rfl ?_
      refine zg_X3_place F (by with_reducible assumption) fl_X3_29 dX3_readNumber_20 ?_
      try simp only [c1, c2]
      refine z_aload_n F dX3_readNumber_23 rfl ?_
      refine zg_X3_length F (by with_reducible assumption) fl_X3_106 dX3_readNumber_24 ?_
      try simp only [c1, c2]
      refine z_ic_ge (tgt := 82) F dX3_readNumber_27 (by decide) (fun h_27 => ?_) (fun h_27 => absurd h_27 (Int32.not_lt.mpr (nI_le (Nat.le_refl _) (by omega))))
      refine z_iload_n F dX3_readNumber_82 rfl ?_
      refine z_iload_n F dX3_readNumber_83 rfl ?_
      refine z_ic_le (tgt := 94) F dX3_readNumber_84 (by decide) (fun h_84 => ?_) (fun h_84 => ?_)
      · try simp only [c1, c2] at h_84
        refine z_iload_n F dX3_readNumber_94 rfl ?_
        refine z_iret F X dX3_readNumber_95 ?_
        rw [if_neg (nlt h_84)] at hfin
        rw [hfin]
        exact ⟨rfl, rfl⟩
      · try simp only [c1, c2] at h_84
        refine z_aload_n F dX3_readNumber_87 rfl ?_
        refine z_iload_n F dX3_readNumber_88 rfl ?_
        refine zp_X3_place F (by with_reducible assumption) fl_X3_29 dX3_readNumber_89 ?_
        refine z_iconst (v := (-1)) F dX3_readNumber_92 (by decide) ?_
        refine z_iret F X dX3_readNumber_93 ?_
        rw [if_pos h_84] at hfin
        rw [hfin, zs_zs]
        exact ⟨rfl, rfl⟩
    | succ j ih =>
      intro q n hqj hs
      have c1 : (zs M tp 2 (nI q)).1 tp 1 = nI len := by rw [zs_at, va_up_ne _ _ (by decide), o1]
      have c2 : (zs M tp 2 (nI q)).1 tp 2 = nI q := by rw [zs_at, va_up_self]
      have c3 : (zs M tp 2 (nI q)).1 (tp + 1) = L := by rw [zs_off _ hn1, hL]
      have hpin : vp_in (nI q) 120 := vp_in_nI (by omega) (by decide)
      have hpc : (nI q).toNatClampNeg = q := nI_clamp (by omega)
      rw [nmP] at hs
      refine z_aload_n F dX3_readNumber_19 rfl ?_
      refine zg_X3_place F (by with_reducible assumption) fl_X3_29 dX3_readNumber_20 ?_
      try simp only [c1, c2, c3, hpc]
      refine z_aload_n F dX3_readNumber_23 rfl ?_
      refine zg_X3_length F (by with_reducible assumption) fl_X3_106 dX3_readNumber_24 ?_
      try simp only [c1, c2, c3, hpc]
      refine z_ic_ge (tgt := 82) F dX3_readNumber_27 (by decide) (fun h_27 => absurd h_27 (Int32.not_le.mpr (nI_lt (by omega) (by omega)))) (fun h_27 => ?_)
      refine z_aload_n F dX3_readNumber_30 rfl ?_
      refine zg_X3_letters F (by with_reducible assumption) fl_X3_9 dX3_readNumber_31 (fun hk_31 => ?_)
      refine z_aload_n F dX3_readNumber_34 rfl ?_
      refine zg_X3_place F (by with_reducible assumption) fl_X3_29 dX3_readNumber_35 ?_
      try simp only [c1, c2, c3, hpc]
      refine z_cald9 F (by with_reducible assumption) hpin dX3_readNumber_38 ?_
      try simp only [c1, c2, c3, hpc]
      refine z_callSi F (c_X3_isDigit J) zm_X3_isDigit zst_X3_isDigit ml_X3_65 rfl rfl (Nat.le_of_ble_eq_true rfl) dX3_readNumber_39 (by omega) (fun r_39 M_39 h_39 => ?_)
      obtain ⟨e_39, rfl⟩ := h_39
      replace e_39 := Eq.symm e_39
      subst e_39
      refine z_if_eq (tgt := 82) F dX3_readNumber_42 (by decide) (fun h_42 => ?_) (fun h_42 => ?_)
      · replace h_42 := bI_0.mp h_42
        try simp only [c1, c2, c3, hpc] at h_42
        refine z_iload_n F dX3_readNumber_82 rfl ?_
        refine z_iload_n F dX3_readNumber_83 rfl ?_
        refine z_ic_le (tgt := 94) F dX3_readNumber_84 (by decide) (fun h_84 => ?_) (fun h_84 => ?_)
        · try simp only [c1, c2, c3, hpc] at h_84
          refine z_iload_n F dX3_readNumber_94 rfl ?_
          refine z_iret F X dX3_readNumber_95 ?_
          rw [if_neg h_42] at hs
          rw [← hs, if_neg (nlt h_84)] at hfin
          rw [hfin]
          exact ⟨rfl, rfl⟩
        · try simp only [c1, c2, c3, hpc] at h_84
          refine z_aload_n F dX3_readNumber_87 rfl ?_
          refine z_iload_n F dX3_readNumber_88 rfl ?_
          refine zp_X3_place F (by with_reducible assumption) fl_X3_29 dX3_readNumber_89 ?_
          refine z_iconst (v := (-1)) F dX3_readNumber_92 (by decide) ?_
          refine z_iret F X dX3_readNumber_93 ?_
          rw [if_neg h_42] at hs
          rw [← hs, if_pos h_84] at hfin
          rw [hfin, zs_zs]
          exact ⟨rfl, rfl⟩
      · replace h_42 := bI_1.mp h_42
        try simp only [c1, c2, c3, hpc] at h_42
        refine z_iload_n F dX3_readNumber_45 rfl ?_
        refine z_bipush (v := 10) F dX3_readNumber_46 (by decide) ?_
        refine z_imul F dX3_readNumber_48 ?_
        refine z_aload_n F dX3_readNumber_49 rfl ?_
        refine zg_X3_letters F (by with_reducible assumption) fl_X3_9 dX3_readNumber_50 (fun hk_50 => ?_)
        refine z_aload_n F dX3_readNumber_53 rfl ?_
        refine zg_X3_place F (by with_reducible assumption) fl_X3_29 dX3_readNumber_54 ?_
        try simp only [c1, c2, c3, hpc]
        refine z_cald9 F (by with_reducible assumption) hpin dX3_readNumber_57 ?_
        try simp only [c1, c2, c3, hpc]
        refine z_iadd F dX3_readNumber_58 ?_
        refine z_bipush (v := 48) F dX3_readNumber_59 (by decide) ?_
        refine z_isub F dX3_readNumber_61 ?_
        refine z_iload_n F dX3_readNumber_62 rfl ?_
        refine z_iconst (v := 1) F dX3_readNumber_63 (by decide) ?_
        refine z_iadd F dX3_readNumber_64 ?_
        refine z_min F mi_X3_109 (Nat.le_of_ble_eq_true rfl) dX3_readNumber_65 (by omega) ?_
        refine z_istore_n (lv' := [_, _, _, _]) F dX3_readNumber_68 (by decide) rfl rfl ?_
        refine z_aload_n F dX3_readNumber_69 rfl ?_
        refine z_dup F dX3_readNumber_70 rfl ?_
        refine zg_X3_place F (by with_reducible assumption) fl_X3_29 dX3_readNumber_71 ?_
        try simp only [c1, c2, c3, hpc]
        refine z_iconst (v := 1) F dX3_readNumber_74 (by decide) ?_
        refine z_iadd F dX3_readNumber_75 ?_
        refine zp_X3_place F (by with_reducible assumption) fl_X3_29 dX3_readNumber_76 ?_
        refine z_goto (tgt := 19) F dX3_readNumber_79 (by decide) ?_
        rw [if_pos h_42] at hs
        rw [zs_zs, nI_1]
        exact ih (q + 1) _ (by omega) hs
  refine z_aload_n F dX3_readNumber_0 rfl ?_
  refine z_callVi F (c_X3_next J hk ok) zm_X3_next zv_X3_next ml_X3_61 (by with_reducible assumption) (by decide) rfl rfl rfl (Nat.le_of_ble_eq_true rfl) dX3_readNumber_1 (by omega) (fun r_1 M_1 h_1 => ?_)
  obtain ⟨e_1, rfl⟩ := h_1
  replace e_1 := Eq.symm e_1
  subst e_1
  refine z_callSi F (c_X3_isDigit J) zm_X3_isDigit zst_X3_isDigit ml_X3_65 rfl rfl (Nat.le_of_ble_eq_true rfl) dX3_readNumber_4 (by omega) (fun r_4 M_4 h_4 => ?_)
  obtain ⟨e_4, rfl⟩ := h_4
  replace e_4 := Eq.symm e_4
  subst e_4
  refine z_if_ne (tgt := 12) F dX3_readNumber_7 (by decide) (fun h_7 => ?_) (fun h_7 => ?_)
  · replace h_7 := bI_1.mp h_7
    try simp only [zs_at, va_up_self] at h_7
    refine z_aload_n F dX3_readNumber_12 rfl ?_
    refine zg_X3_place F (by with_reducible assumption) fl_X3_29 dX3_readNumber_13 ?_
    try simp only [zs_at, va_up_self]
    refine z_istore_n (lv' := [_, _, _, _]) F dX3_readNumber_16 (by decide) rfl rfl ?_
    refine z_iconst (v := 0) F dX3_readNumber_17 (by decide) ?_
    refine z_istore_n (lv' := [_, _, _, _]) F dX3_readNumber_18 (by decide) rfl rfl ?_
    rw [hL, hq] at h_7 ⊢
    exact key h_7 (len - q0) q0 0 (by omega) rfl
  · replace h_7 := bI_0.mp h_7
    try simp only [zs_at, va_up_self] at h_7
    refine z_iconst (v := (-1)) F dX3_readNumber_10 (by decide) ?_
    refine z_iret F X dX3_readNumber_11 ?_
    rw [hL, hq] at h_7
    have e : numF L len p most = (-1, q0) := by unfold numF; rw [hq, if_neg h_7]
    rw [e, hL, hq]
    exact ⟨rfl, rfl⟩
end
section
/-- a thing's digit, if nobody has it yet; or -1 -/
def freeF (L : zF1) (len p : Nat) (nt : Int32) (T : zF1) (np : Nat) : Int32 × Nat :=
  if (0 ≤ chF L len (nxP L (len - p) p) - 48 ∧ chF L len (nxP L (len - p) p) - 48 < nt) ∧ whoF T np (chF L len (nxP L (len - p) p) - 48) = -4 then (chF L len (nxP L (len - p) p) - 48, nxP L (len - p) p + 1) else (-1, nxP L (len - p) p)
theorem freeF_le {L : zF1} {len p np : Nat} {nt : Int32} {T : zF1} (hp : p ≤ len) : (freeF L len p nt T np).2 ≤ len := by
  have := nxP_le L (len - p) p
  unfold freeF
  split
  · next h =>
    show nxP L (len - p) p + 1 ≤ len
    have h1 := h.1.1
    unfold chF at h1
    split at h1
    · omega
    · exact absurd h1 (by decide)
  · show nxP L (len - p) p ≤ len; omega
theorem c_X3_readFreeThing {l : Launch} {w : zE} (J : zJ w) {M : zM} {tp len p np : Nat} (hk : zk tp = 3) (ok : tpOK M tp len p) (hnp : M.1 (tp + 2) 1 = nI np) (hnp9 : np ≤ 8) : zCi l w yX3_readFreeThing cX3_readFreeThing 2 (some .int) 1 [.ref (w.2.2 tp)] M (fun v M2 => M2 = zs M tp 2 (nI (freeF (M.1 (tp + 1)) len p (M.1 (tp + 2) 0) (M.1 (tp + 16)) np).2) ∧ v = (freeF (M.1 (tp + 1)) len p (M.1 (tp + 2) 0) (M.1 (tp + 16)) np).1) := by
  obtain ⟨k1, k2, k16⟩ := zkf3 tp (zk_i hk (by decide)) hk
  refine zCi_of J zm_X3_readFreeThing [some (.ref (w.2.2 tp)), none] (Nat.le_of_ble_eq_true rfl) rfl (fun g hg F X => ?_)
  subst hg
  refine z_aload_n F dX3_readFreeThing_0 rfl ?_
  refine z_callVi F (c_X3_next J hk ok) zm_X3_next zv_X3_next ml_X3_61 (by with_reducible assumption) (by decide) rfl rfl rfl (Nat.le_of_ble_eq_true rfl) dX3_readFreeThing_1 (by omega) (fun r_1 M_1 h_1 => ?_)
  obtain ⟨e_1, rfl⟩ := h_1
  replace e_1 := Eq.symm e_1
  subst e_1
  refine z_bipush (v := 48) F dX3_readFreeThing_4 (by decide) ?_
  refine z_isub F dX3_readFreeThing_6 ?_
  refine z_istore_n (lv' := [_, _]) F dX3_readFreeThing_7 (by decide) rfl rfl ?_
  refine z_aload_n F dX3_readFreeThing_8 rfl ?_
  refine zg_X3_road F (by with_reducible assumption) fl_X3_18 dX3_readFreeThing_9 (fun hk_9 => ?_)
  refine z_iload_n F dX3_readFreeThing_12 rfl ?_
  refine z_callVi F (c_X1_isThing J (by with_reducible assumption)) zm_X1_isThing zv_X1_isThing ml_X3_115 (by with_reducible assumption) (by decide) rfl rfl rfl (Nat.le_of_ble_eq_true rfl) dX3_readFreeThing_13 (by omega) (fun r_13 M_13 h_13 => ?_)
  obtain ⟨e_13, rfl⟩ := h_13
  replace e_13 := Eq.symm e_13
  subst e_13
  refine z_if_eq (tgt := 36) F dX3_readFreeThing_16 (by decide) (fun h_16 => ?_) (fun h_16 => ?_)
  · replace h_16 := bI_0.mp h_16
    try simp only [zs_at, va_up_self, zs_off _ (show tp + 16 ≠ tp by omega), zs_off _ (show tp + 2 ≠ tp by omega)] at h_16
    refine z_iconst (v := (-1)) F dX3_readFreeThing_36 (by decide) ?_
    refine z_iret F X dX3_readFreeThing_37 ?_
    have e : freeF (M.1 (tp + 1)) len p (M.1 (tp + 2) 0) (M.1 (tp + 16)) np = (-1, nxP (M.1 (tp + 1)) (len - p) p) := if_neg (fun q => h_16 q.1)
    rw [e]
    exact ⟨rfl, rfl⟩
  · replace h_16 := bI_1.mp h_16
    try simp only [zs_at, va_up_self, zs_off _ (show tp + 16 ≠ tp by omega), zs_off _ (show tp + 2 ≠ tp by omega)] at h_16
    refine z_aload_n F dX3_readFreeThing_19 rfl ?_
    refine zg_X3_road F (by with_reducible assumption) fl_X3_18 dX3_readFreeThing_20 (fun hk_20 => ?_)
    refine z_iload_n F dX3_readFreeThing_23 rfl ?_
    refine z_aload_n F dX3_readFreeThing_24 rfl ?_
    refine zg_X3_trip F (by with_reducible assumption) fl_X3_25 dX3_readFreeThing_25 (fun hk_25 => ?_)
    refine z_callVi F (c_X1_whoHas J (by with_reducible assumption) (by with_reducible assumption) (np := np) (by rw [zs_off _ (by omega)]; exact hnp) (by omega)) zm_X1_whoHas zv_X1_whoHas ml_X3_119 (by with_reducible assumption) (by decide) rfl rfl rfl (Nat.le_of_ble_eq_true rfl) dX3_readFreeThing_28 (by omega) (fun r_28 M_28 h_28 => ?_)
    obtain ⟨e_28, rfl⟩ := h_28
    replace e_28 := Eq.symm e_28
    subst e_28
    refine z_bipush (v := (-4)) F dX3_readFreeThing_31 (by decide) ?_
    refine z_ic_eq (tgt := 38) F dX3_readFreeThing_33 (by decide) (fun h_33 => ?_) (fun h_33 => ?_)
    · try simp only [zs_at, va_up_self, zs_off _ (show tp + 16 ≠ tp by omega), zs_off _ (show tp + 2 ≠ tp by omega)] at h_33
      refine z_aload_n F dX3_readFreeThing_38 rfl ?_
      refine z_dup F dX3_readFreeThing_39 rfl ?_
      refine zg_X3_place F (by with_reducible assumption) fl_X3_29 dX3_readFreeThing_40 ?_
      try simp only [zs_at, va_up_self, zs_off _ (show tp + 16 ≠ tp by omega), zs_off _ (show tp + 2 ≠ tp by omega)]
      refine z_iconst (v := 1) F dX3_readFreeThing_43 (by decide) ?_
      refine z_iadd F dX3_readFreeThing_44 ?_
      refine zp_X3_place F (by with_reducible assumption) fl_X3_29 dX3_readFreeThing_45 ?_
      refine z_iload_n F dX3_readFreeThing_48 rfl ?_
      refine z_iret F X dX3_readFreeThing_49 ?_
      rw [zs_zs, nI_1]
      have e : freeF (M.1 (tp + 1)) len p (M.1 (tp + 2) 0) (M.1 (tp + 16)) np = (chF (M.1 (tp + 1)) len (nxP (M.1 (tp + 1)) (len - p) p) - 48, nxP (M.1 (tp + 1)) (len - p) p + 1) := if_pos ⟨h_16, h_33⟩
      rw [e]
      exact ⟨rfl, rfl⟩
    · try simp only [zs_at, va_up_self, zs_off _ (show tp + 16 ≠ tp by omega), zs_off _ (show tp + 2 ≠ tp by omega)] at h_33
      refine z_iconst (v := (-1)) F dX3_readFreeThing_36 (by decide) ?_
      refine z_iret F X dX3_readFreeThing_37 ?_
      have e : freeF (M.1 (tp + 1)) len p (M.1 (tp + 2) 0) (M.1 (tp + 16)) np = (-1, nxP (M.1 (tp + 1)) (len - p) p) := if_neg (fun q => h_33 q.2)
      rw [e]
      exact ⟨rfl, rfl⟩
/-- what he has: whether it stands there, the place, the thing -/
def hisF (L : zF1) (len p : Nat) (nt : Int32) (T : zF1) (np : Nat) : Int32 × Nat × Int32 :=
  if rdB L len p 61 then (if (freeF L len (rdP L len p 61) nt T np).1 < 0 then (0, (freeF L len (rdP L len p 61) nt T np).2, 0) else (1, (freeF L len (rdP L len p 61) nt T np).2, (freeF L len (rdP L len p 61) nt T np).1)) else (0, rdP L len p 61, 0)
theorem c_X3_readHis {l : Launch} {w : zE} (J : zJ w) {M : zM} {tp len p np : Nat} (hk : zk tp = 3) (ok : tpOK M tp len p) (hnp : M.1 (tp + 2) 1 = nI np) (hnp9 : np ≤ 8) : zCi l w yX3_readHis cX3_readHis 2 (some .boolean) 2 [.ref (w.2.2 tp)] M (fun v M2 => v = (hisF (M.1 (tp + 1)) len p (M.1 (tp + 2) 0) (M.1 (tp + 16)) np).1 ∧ M2 = if v = 0 then zs M tp 2 (nI (hisF (M.1 (tp + 1)) len p (M.1 (tp + 2) 0) (M.1 (tp + 16)) np).2.1) else zs (zs M tp 2 (nI (hisF (M.1 (tp + 1)) len p (M.1 (tp + 2) 0) (M.1 (tp + 16)) np).2.1)) (tp + 16) 0 (hisF (M.1 (tp + 1)) len p (M.1 (tp + 2) 0) (M.1 (tp + 16)) np).2.2) := by
  obtain ⟨k1, k2, k16⟩ := zkf3 tp (zk_i hk (by decide)) hk
  have ok2 := ok.to (rdP_le (L := M.1 (tp + 1)) (c := 61) ok.2.2.2.1 (by decide))
  refine zCi_of J zm_X3_readHis [some (.ref (w.2.2 tp)), none] (Nat.le_of_ble_eq_true rfl) rfl (fun g hg F X => ?_)
  subst hg
  refine z_aload_n F dX3_readHis_0 rfl ?_
  refine z_bipush (v := 61) F dX3_readHis_1 (by decide) ?_
  refine z_callVi F (c_X3_reads J hk ok) zm_X3_reads zv_X3_reads ml_X3_57 (by with_reducible assumption) (by decide) rfl rfl rfl (Nat.le_of_ble_eq_true rfl) dX3_readHis_3 (by omega) (fun r_3 M_3 h_3 => ?_)
  obtain ⟨e_3, rfl⟩ := h_3
  replace e_3 := Eq.symm e_3
  subst e_3
  refine z_if_ne (tgt := 11) F dX3_readHis_6 (by decide) (fun h_6 => ?_) (fun h_6 => ?_)
  · replace h_6 := bI_1.mp h_6
    refine z_aload_n F dX3_readHis_11 rfl ?_
    refine z_callVi F (c_X3_readFreeThing J hk ok2 (np := np) (by rw [zs_off _ (by omega)]; exact hnp) hnp9) zm_X3_readFreeThing zv_X3_readFreeThing ml_X3_95 (by with_reducible assumption) (by decide) rfl rfl rfl (Nat.le_of_ble_eq_true rfl) dX3_readHis_12 (by omega) (fun r_12 M_12 h_12 => ?_)
    obtain ⟨e_12, rfl⟩ := h_12
    replace e_12 := Eq.symm e_12
    subst e_12
    simp only [zs_off _ (show tp + 1 ≠ tp by omega), zs_off _ (show tp + 2 ≠ tp by omega), zs_off _ (show tp + 16 ≠ tp by omega), zs_zs]
    refine z_istore_n (lv' := [_, _]) F dX3_readHis_15 (by decide) rfl rfl ?_
    refine z_iload_n F dX3_readHis_16 rfl ?_
    refine z_if_ge (tgt := 22) F dX3_readHis_17 (by decide) (fun h_17 => ?_) (fun h_17 => ?_)
    · refine z_aload_n F dX3_readHis_22 rfl ?_
      refine zg_X3_trip F (by with_reducible assumption) fl_X3_25 dX3_readHis_23 (fun hk_23 => ?_)
      refine z_iload_n F dX3_readHis_26 rfl ?_
      refine zp_X5_his F (by with_reducible assumption) fl_X3_103 dX3_readHis_27 ?_
      refine z_iconst (v := 1) F dX3_readHis_30 (by decide) ?_
      refine z_zret F X dX3_readHis_31 (by decide) ?_
      rw [hisF, if_pos h_6, if_neg (nlt h_17)]
      exact ⟨rfl, rfl⟩
    · refine z_iconst (v := 0) F dX3_readHis_20 (by decide) ?_
      refine z_zret F X dX3_readHis_21 (by decide) ?_
      rw [hisF, if_pos h_6, if_pos h_17]
      exact ⟨rfl, rfl⟩
  · replace h_6 := bI_0.mp h_6
    refine z_iconst (v := 0) F dX3_readHis_9 (by decide) ?_
    refine z_zret F X dX3_readHis_10 (by decide) ?_
    rw [hisF, if_neg h_6]
    exact ⟨rfl, rfl⟩
def perG (L : zF1) (len : Nat) (t : Int32 × Nat) (m : Int32) : Int32 × Nat × Int32 × Int32 × Int32 :=
  if rdB L len t.2 43 then (if (numF L len (rdP L len t.2 43) 20).1 < 0 then (0, (numF L len (rdP L len t.2 43) 20).2, 0, 0, 0) else (1, (numF L len (rdP L len t.2 43) 20).2, m, (numF L len (rdP L len t.2 43) 20).1, t.1)) else (1, rdP L len t.2 43, m, 0, t.1)
/-- a person: whether it stands there, the place; milestone, margin, thing -/
def perF (L : zF1) (len p : Nat) (nt : Int32) (T : zF1) (np : Nat) : Int32 × Nat × Int32 × Int32 × Int32 :=
  if (numF L len p 11).1 < 0 then (0, (numF L len p 11).2, 0, 0, 0) else
  if rdB L len (numF L len p 11).2 61 ∧ (freeF L len (rdP L len (numF L len p 11).2 61) nt T np).1 < 0 then (0, (freeF L len (rdP L len (numF L len p 11).2 61) nt T np).2, 0, 0, 0) else
  perG L len (if rdB L len (numF L len p 11).2 61 then (freeF L len (rdP L len (numF L len p 11).2 61) nt T np) else (-4, rdP L len (numF L len p 11).2 61)) (numF L len p 11).1
theorem c_X3_readPerson {l : Launch} {w : zE} (J : zJ w) {M : zM} {tp len p np : Nat} (hk : zk tp = 3) (ok : tpOK M tp len p) (hnp : M.1 (tp + 2) 1 = nI np) (hnp9 : np < 8) : zCi l w yX3_readPerson cX3_readPerson 4 (some .boolean) 2 [.ref (w.2.2 tp)] M (fun v M2 => v = (perF (M.1 (tp + 1)) len p (M.1 (tp + 2) 0) (M.1 (tp + 16)) np).1 ∧ M2 = if v = 0 then zs M tp 2 (nI (perF (M.1 (tp + 1)) len p (M.1 (tp + 2) 0) (M.1 (tp + 16)) np).2.1) else zs (zs (zs (zs (zs M tp 2 (nI (perF (M.1 (tp + 1)) len p (M.1 (tp + 2) 0) (M.1 (tp + 16)) np).2.1)) (tp + 2 + 12) (2 * np) (perF (M.1 (tp + 1)) len p (M.1 (tp + 2) 0) (M.1 (tp + 16)) np).2.2.1) (tp + 2 + 12) (2 * np + 1) (perF (M.1 (tp + 1)) len p (M.1 (tp + 2) 0) (M.1 (tp + 16)) np).2.2.2.1) (tp + 16) (5 + np) (perF (M.1 (tp + 1)) len p (M.1 (tp + 2) 0) (M.1 (tp + 16)) np).2.2.2.2) (tp + 2) 1 (nI (np + 1))) := by
  obtain ⟨k1, k2, k16⟩ := zkf3 tp (zk_i hk (by decide)) hk
  have ok1 := ok.to (numF_le (L := M.1 (tp + 1)) (most := 11) ok.2.2.2.1)
  have hL : ∀ v, (zs M tp 2 v).1 (tp + 1) = M.1 (tp + 1) := fun v => zs_off _ (by omega)
  have hR : ∀ v, (zs M tp 2 v).1 (tp + 2) = M.1 (tp + 2) := fun v => zs_off _ (by omega)
  have hT : ∀ v, (zs M tp 2 v).1 (tp + 16) = M.1 (tp + 16) := fun v => zs_off _ (by omega)
  have ok2 := ok.to (rdP_le (L := M.1 (tp + 1)) (p := (numF (M.1 (tp + 1)) len p 11).2) (c := 61) ok1.2.2.2.1 (by decide))
  have ok3 := ok.to (freeF_le (L := M.1 (tp + 1)) (p := rdP (M.1 (tp + 1)) len (numF (M.1 (tp + 1)) len p 11).2 61) (nt := M.1 (tp + 2) 0) (T := M.1 (tp + 16)) (np := np) ok2.2.2.2.1)
  have okr : ∀ q, q ≤ len → tpOK (zs M tp 2 (nI (rdP (M.1 (tp + 1)) len q 43))) tp len (rdP (M.1 (tp + 1)) len q 43) := fun q hq => ok.to (rdP_le hq (by decide))
  refine zCi_of J zm_X3_readPerson [some (.ref (w.2.2 tp)), none, none, none] (Nat.le_of_ble_eq_true rfl) rfl (fun g hg F X => ?_)
  subst hg
  refine z_aload_n F dX3_readPerson_0 rfl ?_
  refine z_bipush (v := 11) F dX3_readPerson_1 (by decide) ?_
  refine z_callVi F (c_X3_readNumber J hk ok) zm_X3_readNumber zv_X3_readNumber ml_X3_85 (by with_reducible assumption) (by decide) rfl rfl rfl (Nat.le_of_ble_eq_true rfl) dX3_readPerson_3 (by omega) (fun r_3 M_3 h_3 => ?_)
  obtain ⟨e_3, rfl⟩ := h_3
  replace e_3 := Eq.symm e_3
  subst e_3
  refine z_istore_n (lv' := [_, _, _, _]) F dX3_readPerson_6 (by decide) rfl rfl ?_
  refine z_iload_n F dX3_readPerson_7 rfl ?_
  refine z_if_ge (tgt := 13) F dX3_readPerson_8 (by decide) (fun h_8 => ?_) (fun h_8 => ?_)
  · try simp only [hL, hR, hT, zs_zs] at h_8
    refine z_bipush (v := (-4)) F dX3_readPerson_13 (by decide) ?_
    refine z_istore_n (lv' := [_, _, _, _]) F dX3_readPerson_15 (by decide) rfl rfl ?_
    refine z_aload_n F dX3_readPerson_16 rfl ?_
    refine z_bipush (v := 61) F dX3_readPerson_17 (by decide) ?_
    refine z_callVi F (c_X3_reads J hk ok1) zm_X3_reads zv_X3_reads ml_X3_57 (by with_reducible assumption) (by decide) rfl rfl rfl (Nat.le_of_ble_eq_true rfl) dX3_readPerson_19 (by omega) (fun r_19 M_19 h_19 => ?_)
    obtain ⟨e_19, rfl⟩ := h_19
    replace e_19 := Eq.symm e_19
    subst e_19
    simp only [hL, zs_zs]
    refine z_if_eq (tgt := 36) F dX3_readPerson_22 (by decide) (fun h_22 => ?_) (fun h_22 => ?_)
    · replace h_22 := bI_0.mp h_22
      try simp only [hL, hR, hT, zs_zs] at h_22
      refine z_aload_n F dX3_readPerson_36 rfl ?_
      refine z_bipush (v := 43) F dX3_readPerson_37 (by decide) ?_
      refine z_callVi F (c_X3_reads J hk (by first | exact ok3 | exact ok2)) zm_X3_reads zv_X3_reads ml_X3_57 (by with_reducible assumption) (by decide) rfl rfl rfl (Nat.le_of_ble_eq_true rfl) dX3_readPerson_39 (by omega) (fun r_39 M_39 h_39 => ?_)
      obtain ⟨e_39, rfl⟩ := h_39
      replace e_39 := Eq.symm e_39
      subst e_39
      simp only [hL, zs_zs]
      refine z_if_eq (tgt := 54) F dX3_readPerson_42 (by decide) (fun h_42 => ?_) (fun h_42 => ?_)
      · replace h_42 := bI_0.mp h_42
        try simp only [hL, hR, hT, zs_zs] at h_42
        refine z_iconst (v := 0) F dX3_readPerson_54 (by decide) ?_
        refine z_istore_n (lv' := [_, _, _, _]) F dX3_readPerson_55 (by decide) rfl rfl ?_
        refine z_iload_n F dX3_readPerson_56 rfl ?_
        refine z_if_ge (tgt := 62) F dX3_readPerson_57 (by decide) (fun h_57 => ?_) (fun h_57 => absurd h_57 (by decide))
        refine z_aload_n F dX3_readPerson_62 rfl ?_
        refine zg_X3_road F (by with_reducible assumption) fl_X3_18 dX3_readPerson_63 (fun hk_63 => ?_)
        refine z_iload_n F dX3_readPerson_66 rfl ?_
        refine z_iload_n F dX3_readPerson_67 rfl ?_
        refine z_iload_n F dX3_readPerson_68 rfl ?_
        refine z_aload_n F dX3_readPerson_69 rfl ?_
        refine zg_X3_trip F (by with_reducible assumption) fl_X3_25 dX3_readPerson_70 (fun hk_70 => ?_)
        refine z_callVi F (c_X1_addPerson J (by with_reducible assumption) (by with_reducible assumption) (n := np) (by rw [hR]; exact hnp) (by omega)) zm_X1_addPerson zv_X1_addPerson ml_X3_99 (by with_reducible assumption) (by decide) rfl rfl rfl (Nat.le_of_ble_eq_true rfl) dX3_readPerson_73 (by omega) (fun r_73 M_73 h_73 => ?_)
        obtain ⟨e_73, rfl⟩ := h_73
        replace e_73 := Eq.symm e_73
        subst e_73
        refine z_pop F dX3_readPerson_76 rfl ?_
        refine z_iconst (v := 1) F dX3_readPerson_77 (by decide) ?_
        refine z_zret F X dX3_readPerson_78 (by decide) ?_
        rw [perF, if_neg (nlt h_8), if_neg (fun q => h_22 q.1), if_neg h_22, perG, if_neg h_42]
        exact ⟨rfl, rfl⟩
      · replace h_42 := bI_1.mp h_42
        try simp only [hL, hR, hT, zs_zs] at h_42
        refine z_aload_n F dX3_readPerson_45 rfl ?_
        refine z_bipush (v := 20) F dX3_readPerson_46 (by decide) ?_
        refine z_callVi F (c_X3_readNumber J hk (okr _ (by first | exact ok3.2.2.2.1 | exact ok2.2.2.2.1))) zm_X3_readNumber zv_X3_readNumber ml_X3_85 (by with_reducible assumption) (by decide) rfl rfl rfl (Nat.le_of_ble_eq_true rfl) dX3_readPerson_48 (by omega) (fun r_48 M_48 h_48 => ?_)
        obtain ⟨e_48, rfl⟩ := h_48
        replace e_48 := Eq.symm e_48
        subst e_48
        simp only [hL, zs_zs]
        refine z_goto (tgt := 55) F dX3_readPerson_51 (by decide) ?_
        refine z_istore_n (lv' := [_, _, _, _]) F dX3_readPerson_55 (by decide) rfl rfl ?_
        refine z_iload_n F dX3_readPerson_56 rfl ?_
        refine z_if_ge (tgt := 62) F dX3_readPerson_57 (by decide) (fun h_57 => ?_) (fun h_57 => ?_)
        · try simp only [hL, hR, hT, zs_zs] at h_57
          refine z_aload_n F dX3_readPerson_62 rfl ?_
          refine zg_X3_road F (by with_reducible assumption) fl_X3_18 dX3_readPerson_63 (fun hk_63 => ?_)
          refine z_iload_n F dX3_readPerson_66 rfl ?_
          refine z_iload_n F dX3_readPerson_67 rfl ?_
          refine z_iload_n F dX3_readPerson_68 rfl ?_
          refine z_aload_n F dX3_readPerson_69 rfl ?_
          refine zg_X3_trip F (by with_reducible assumption) fl_X3_25 dX3_readPerson_70 (fun hk_70 => ?_)
          refine z_callVi F (c_X1_addPerson J (by with_reducible assumption) (by with_reducible assumption) (n := np) (by rw [hR]; exact hnp) (by omega)) zm_X1_addPerson zv_X1_addPerson ml_X3_99 (by with_reducible assumption) (by decide) rfl rfl rfl (Nat.le_of_ble_eq_true rfl) dX3_readPerson_73 (by omega) (fun r_73 M_73 h_73 => ?_)
          obtain ⟨e_73, rfl⟩ := h_73
          replace e_73 := Eq.symm e_73
          subst e_73
          refine z_pop F dX3_readPerson_76 rfl ?_
          refine z_iconst (v := 1) F dX3_readPerson_77 (by decide) ?_
          refine z_zret F X dX3_readPerson_78 (by decide) ?_
          rw [perF, if_neg (nlt h_8), if_neg (fun q => h_22 q.1), if_neg h_22, perG, if_pos h_42, if_neg (nlt h_57)]
          exact ⟨rfl, rfl⟩
        · try simp only [hL, hR, hT, zs_zs] at h_57
          refine z_iconst (v := 0) F dX3_readPerson_60 (by decide) ?_
          refine z_zret F X dX3_readPerson_61 (by decide) ?_
          rw [perF, if_neg (nlt h_8), if_neg (fun q => h_22 q.1), if_neg h_22, perG, if_pos h_42, if_pos h_57]
          exact ⟨rfl, rfl⟩
    · replace h_22 := bI_1.mp h_22
      try simp only [hL, hR, hT, zs_zs] at h_22
      refine z_aload_n F dX3_readPerson_25 rfl ?_
      refine z_callVi F (c_X3_readFreeThing J hk ok2 (np := np) (by rw [hR]; exact hnp) (by omega)) zm_X3_readFreeThing zv_X3_readFreeThing ml_X3_95 (by with_reducible assumption) (by decide) rfl rfl rfl (Nat.le_of_ble_eq_true rfl) dX3_readPerson_26 (by omega) (fun r_26 M_26 h_26 => ?_)
      obtain ⟨e_26, rfl⟩ := h_26
      replace e_26 := Eq.symm e_26
      subst e_26
      simp only [hL, hR, hT, zs_zs]
      refine z_istore_n (lv' := [_, _, _, _]) F dX3_readPerson_29 (by decide) rfl rfl ?_
      refine z_iload_n F dX3_readPerson_30 rfl ?_
      refine z_if_ge (tgt := 36) F dX3_readPerson_31 (by decide) (fun h_31 => ?_) (fun h_31 => ?_)
      · try simp only [hL, hR, hT, zs_zs] at h_31
        refine z_aload_n F dX3_readPerson_36 rfl ?_
        refine z_bipush (v := 43) F dX3_readPerson_37 (by decide) ?_
        refine z_callVi F (c_X3_reads J hk (by first | exact ok3 | exact ok2)) zm_X3_reads zv_X3_reads ml_X3_57 (by with_reducible assumption) (by decide) rfl rfl rfl (Nat.le_of_ble_eq_true rfl) dX3_readPerson_39 (by omega) (fun r_39 M_39 h_39 => ?_)
        obtain ⟨e_39, rfl⟩ := h_39
        replace e_39 := Eq.symm e_39
        subst e_39
        simp only [hL, zs_zs]
        refine z_if_eq (tgt := 54) F dX3_readPerson_42 (by decide) (fun h_42 => ?_) (fun h_42 => ?_)
        · replace h_42 := bI_0.mp h_42
          try simp only [hL, hR, hT, zs_zs] at h_42
          refine z_iconst (v := 0) F dX3_readPerson_54 (by decide) ?_
          refine z_istore_n (lv' := [_, _, _, _]) F dX3_readPerson_55 (by decide) rfl rfl ?_
          refine z_iload_n F dX3_readPerson_56 rfl ?_
          refine z_if_ge (tgt := 62) F dX3_readPerson_57 (by decide) (fun h_57 => ?_) (fun h_57 => absurd h_57 (by decide))
          refine z_aload_n F dX3_readPerson_62 rfl ?_
          refine zg_X3_road F (by with_reducible assumption) fl_X3_18 dX3_readPerson_63 (fun hk_63 => ?_)
          refine z_iload_n F dX3_readPerson_66 rfl ?_
          refine z_iload_n F dX3_readPerson_67 rfl ?_
          refine z_iload_n F dX3_readPerson_68 rfl ?_
          refine z_aload_n F dX3_readPerson_69 rfl ?_
          refine zg_X3_trip F (by with_reducible assumption) fl_X3_25 dX3_readPerson_70 (fun hk_70 => ?_)
          refine z_callVi F (c_X1_addPerson J (by with_reducible assumption) (by with_reducible assumption) (n := np) (by rw [hR]; exact hnp) (by omega)) zm_X1_addPerson zv_X1_addPerson ml_X3_99 (by with_reducible assumption) (by decide) rfl rfl rfl (Nat.le_of_ble_eq_true rfl) dX3_readPerson_73 (by omega) (fun r_73 M_73 h_73 => ?_)
          obtain ⟨e_73, rfl⟩ := h_73
          replace e_73 := Eq.symm e_73
          subst e_73
          refine z_pop F dX3_readPerson_76 rfl ?_
          refine z_iconst (v := 1) F dX3_readPerson_77 (by decide) ?_
          refine z_zret F X dX3_readPerson_78 (by decide) ?_
          rw [perF, if_neg (nlt h_8), if_neg (fun q => nlt h_31 q.2), if_pos h_22, perG, if_neg h_42]
          exact ⟨rfl, rfl⟩
        · replace h_42 := bI_1.mp h_42
          try simp only [hL, hR, hT, zs_zs] at h_42
          refine z_aload_n F dX3_readPerson_45 rfl ?_
          refine z_bipush (v := 20) F dX3_readPerson_46 (by decide) ?_
          refine z_callVi F (c_X3_readNumber J hk (okr _ (by first | exact ok3.2.2.2.1 | exact ok2.2.2.2.1))) zm_X3_readNumber zv_X3_readNumber ml_X3_85 (by with_reducible assumption) (by decide) rfl rfl rfl (Nat.le_of_ble_eq_true rfl) dX3_readPerson_48 (by omega) (fun r_48 M_48 h_48 => ?_)
          obtain ⟨e_48, rfl⟩ := h_48
          replace e_48 := Eq.symm e_48
          subst e_48
          simp only [hL, zs_zs]
          refine z_goto (tgt := 55) F dX3_readPerson_51 (by decide) ?_
          refine z_istore_n (lv' := [_, _, _, _]) F dX3_readPerson_55 (by decide) rfl rfl ?_
          refine z_iload_n F dX3_readPerson_56 rfl ?_
          refine z_if_ge (tgt := 62) F dX3_readPerson_57 (by decide) (fun h_57 => ?_) (fun h_57 => ?_)
          · try simp only [hL, hR, hT, zs_zs] at h_57
            refine z_aload_n F dX3_readPerson_62 rfl ?_
            refine zg_X3_road F (by with_reducible assumption) fl_X3_18 dX3_readPerson_63 (fun hk_63 => ?_)
            refine z_iload_n F dX3_readPerson_66 rfl ?_
            refine z_iload_n F dX3_readPerson_67 rfl ?_
            refine z_iload_n F dX3_readPerson_68 rfl ?_
            refine z_aload_n F dX3_readPerson_69 rfl ?_
            refine zg_X3_trip F (by with_reducible assumption) fl_X3_25 dX3_readPerson_70 (fun hk_70 => ?_)
            refine z_callVi F (c_X1_addPerson J (by with_reducible assumption) (by with_reducible assumption) (n := np) (by rw [hR]; exact hnp) (by omega)) zm_X1_addPerson zv_X1_addPerson ml_X3_99 (by with_reducible assumption) (by decide) rfl rfl rfl (Nat.le_of_ble_eq_true rfl) dX3_readPerson_73 (by omega) (fun r_73 M_73 h_73 => ?_)
            obtain ⟨e_73, rfl⟩ := h_73
            replace e_73 := Eq.symm e_73
            subst e_73
            refine z_pop F dX3_readPerson_76 rfl ?_
            refine z_iconst (v := 1) F dX3_readPerson_77 (by decide) ?_
            refine z_zret F X dX3_readPerson_78 (by decide) ?_
            rw [perF, if_neg (nlt h_8), if_neg (fun q => nlt h_31 q.2), if_pos h_22, perG, if_pos h_42, if_neg (nlt h_57)]
            exact ⟨rfl, rfl⟩
          · try simp only [hL, hR, hT, zs_zs] at h_57
            refine z_iconst (v := 0) F dX3_readPerson_60 (by decide) ?_
            refine z_zret F X dX3_readPerson_61 (by decide) ?_
            rw [perF, if_neg (nlt h_8), if_neg (fun q => nlt h_31 q.2), if_pos h_22, perG, if_pos h_42, if_pos h_57]
            exact ⟨rfl, rfl⟩
      · try simp only [hL, hR, hT, zs_zs] at h_31
        refine z_iconst (v := 0) F dX3_readPerson_34 (by decide) ?_
        refine z_zret F X dX3_readPerson_35 (by decide) ?_
        rw [perF, if_neg (nlt h_8), if_pos ⟨h_22, h_31⟩]
        exact ⟨rfl, rfl⟩
  · try simp only [hL, hR, hT, zs_zs] at h_8
    refine z_iconst (v := 0) F dX3_readPerson_11 (by decide) ?_
    refine z_zret F X dX3_readPerson_12 (by decide) ?_
    rw [perF, if_pos h_8]
    exact ⟨rfl, rfl⟩
end
section
theorem zM_ext {M M' : zM} (h1 : ∀ b, M.1 b = M'.1 b) (h2 : M.2 = M'.2) : M = M' := Prod.ext (funext h1) h2
abbrev zY : Type := Nat × Nat × zF1 × zF1
/-- the tape's place, its people -/
def tpY (M : zM) (tp : Nat) (Y : zY) : zM := zs (zs (za (za M (tp + 2 + 12) Y.2.2.1) (tp + 16) Y.2.2.2) (tp + 2) 1 (nI Y.2.1)) tp 2 (nI Y.1)
theorem tpY_p (M : zM) (tp p q np : Nat) (pe T : zF1) : zs (tpY M tp (p, np, pe, T)) tp 2 (nI q) = tpY M tp (q, np, pe, T) := by unfold tpY; rw [zs_zs]
theorem tpY_tp (M : zM) (tp : Nat) (Y : zY) : (tpY M tp Y).1 tp = va_up (M.1 tp) 2 (nI Y.1) := by unfold tpY; rw [zs_at, zs_off _ (by omega), za_off _ (by omega), za_off _ (by omega)]
theorem tpY_L (M : zM) (tp : Nat) (Y : zY) : (tpY M tp Y).1 (tp + 1) = M.1 (tp + 1) := by unfold tpY; rw [zs_off _ (by omega), zs_off _ (by omega), za_off _ (by omega), za_off _ (by omega)]
theorem tpY_rb (M : zM) (tp : Nat) (Y : zY) : (tpY M tp Y).1 (tp + 2) = va_up (M.1 (tp + 2)) 1 (nI Y.2.1) := by unfold tpY; rw [zs_off _ (by omega), zs_at, za_off _ (by omega), za_off _ (by omega)]
theorem tpY_T (M : zM) (tp : Nat) (Y : zY) : (tpY M tp Y).1 (tp + 16) = Y.2.2.2 := by unfold tpY; rw [zs_off _ (by omega), zs_off _ (by omega), za_at]
theorem tpY_pe (M : zM) (tp : Nat) (Y : zY) : (tpY M tp Y).1 (tp + 2 + 12) = Y.2.2.1 := by unfold tpY; rw [zs_off _ (by omega), zs_off _ (by omega), za_off _ (by omega), za_at]
theorem tpY_off {M : zM} {tp b : Nat} {Y : zY} (h1 : b ≠ tp) (h2 : b ≠ tp + 2) (h3 : b ≠ tp + 2 + 12) (h4 : b ≠ tp + 16) : (tpY M tp Y).1 b = M.1 b := by unfold tpY; rw [zs_off _ h1, zs_off _ h2, za_off _ h4, za_off _ h3]
theorem tpY_add (M : zM) (tp p q np m : Nat) (pe T : zF1) (a b c : Nat) (x y z : Int32) : zs (zs (zs (zs (zs (tpY M tp (p, np, pe, T)) tp 2 (nI q)) (tp + 2 + 12) a x) (tp + 2 + 12) b y) (tp + 16) c z) (tp + 2) 1 (nI m) = tpY M tp (q, m, va_up (va_up pe a x) b y, va_up T c z) := by
  refine zM_ext (fun k => ?_) rfl
  by_cases h1 : k = tp
  · subst h1; rw [zs_off _ (by omega), zs_off _ (by omega), zs_off _ (by omega), zs_off _ (by omega), zs_at, tpY_tp, tpY_tp, bx_uu]
  by_cases h2 : k = tp + 2
  · subst h2; rw [zs_at, zs_off _ (by omega), zs_off _ (by omega), zs_off _ (by omega), zs_off _ (by omega), tpY_rb, tpY_rb, bx_uu]
  by_cases h3 : k = tp + 2 + 12
  · subst h3; rw [zs_off _ (by omega), zs_off _ (by omega), zs_at, zs_at, zs_off _ (by omega), tpY_pe, tpY_pe]
  by_cases h4 : k = tp + 16
  · subst h4; rw [zs_off _ (by omega), zs_at, zs_off _ (by omega), zs_off _ (by omega), zs_off _ (by omega), tpY_T, tpY_T]
  rw [zs_off _ h2, zs_off _ h4, zs_off _ h3, zs_off _ h3, zs_off _ h1, tpY_off h1 h2 h3 h4, tpY_off h1 h2 h3 h4]
theorem tpY_ok {M : zM} {tp len p : Nat} {Y : zY} (h : tpOK M tp len p) (hq : Y.1 ≤ len) : tpOK (tpY M tp Y) tp len Y.1 := by
  unfold tpOK at *
  rw [tpY_tp, tpY_L, va_up_ne _ _ (by decide), va_up_self]
  exact ⟨h.1, h.2.1, rfl, hq, h.2.2.2.2⟩
theorem perG_le {L : zF1} {len : Nat} {t : Int32 × Nat} {m : Int32} (h : t.2 ≤ len) : (perG L len t m).2.1 ≤ len := by
  have h1 := rdP_le (L := L) (c := 43) h (by decide)
  have h2 := numF_le (L := L) (most := 20) h1
  unfold perG
  split
  · split
    · exact h2
    · exact h2
  · exact h1
theorem perF_le {L : zF1} {len p np : Nat} {nt : Int32} {T : zF1} (hp : p ≤ len) : (perF L len p nt T np).2.1 ≤ len := by
  have h1 := numF_le (L := L) (most := 11) hp
  have h2 := rdP_le (L := L) (c := 61) h1 (by decide)
  have h3 := freeF_le (L := L) (nt := nt) (T := T) (np := np) h2
  unfold perF
  split
  · exact h1
  · split
    · exact h3
    · refine perG_le ?_
      split
      · exact h3
      · exact h2
/-- all people of the tape -/
def peoL (L : zF1) (len : Nat) (nt : Int32) : Nat → zY → Int32 × zY
  | 0, Y => (1, Y)
  | j + 1, Y =>
    if (perF L len Y.1 nt Y.2.2.2 Y.2.1).1 = 0 then (0, ((perF L len Y.1 nt Y.2.2.2 Y.2.1).2.1, Y.2.1, Y.2.2.1, Y.2.2.2)) else
    if j = 0 then (1, ((perF L len Y.1 nt Y.2.2.2 Y.2.1).2.1, Y.2.1 + 1, va_up (va_up Y.2.2.1 (2 * Y.2.1) (perF L len Y.1 nt Y.2.2.2 Y.2.1).2.2.1) (2 * Y.2.1 + 1) (perF L len Y.1 nt Y.2.2.2 Y.2.1).2.2.2.1, va_up Y.2.2.2 (5 + Y.2.1) (perF L len Y.1 nt Y.2.2.2 Y.2.1).2.2.2.2)) else
    if rdB L len (perF L len Y.1 nt Y.2.2.2 Y.2.1).2.1 44 then peoL L len nt j (rdP L len (perF L len Y.1 nt Y.2.2.2 Y.2.1).2.1 44, Y.2.1 + 1, va_up (va_up Y.2.2.1 (2 * Y.2.1) (perF L len Y.1 nt Y.2.2.2 Y.2.1).2.2.1) (2 * Y.2.1 + 1) (perF L len Y.1 nt Y.2.2.2 Y.2.1).2.2.2.1, va_up Y.2.2.2 (5 + Y.2.1) (perF L len Y.1 nt Y.2.2.2 Y.2.1).2.2.2.2)
    else (1, (rdP L len (perF L len Y.1 nt Y.2.2.2 Y.2.1).2.1 44, Y.2.1 + 1, va_up (va_up Y.2.2.1 (2 * Y.2.1) (perF L len Y.1 nt Y.2.2.2 Y.2.1).2.2.1) (2 * Y.2.1 + 1) (perF L len Y.1 nt Y.2.2.2 Y.2.1).2.2.2.1, va_up Y.2.2.2 (5 + Y.2.1) (perF L len Y.1 nt Y.2.2.2 Y.2.1).2.2.2.2))
theorem c_X3_readPeople {l : Launch} {w : zE} (J : zJ w) {M : zM} {tp len p : Nat} (hk : zk tp = 3) (ok : tpOK M tp len p) (hnp : M.1 (tp + 2) 1 = nI 0) : zCi l w yX3_readPeople cX3_readPeople 2 (some .boolean) 3 [.ref (w.2.2 tp)] M (fun v M2 => v = (peoL (M.1 (tp + 1)) len (M.1 (tp + 2) 0) 8 (p, 0, M.1 (tp + 2 + 12), M.1 (tp + 16))).1 ∧ M2 = tpY M tp (peoL (M.1 (tp + 1)) len (M.1 (tp + 2) 0) 8 (p, 0, M.1 (tp + 2 + 12), M.1 (tp + 16))).2) := by
  obtain ⟨k1, k2, k16⟩ := zkf3 tp (zk_i hk (by decide)) hk
  refine zCi_of J zm_X3_readPeople [some (.ref (w.2.2 tp)), none] (Nat.le_of_ble_eq_true rfl) rfl (fun g hg F X => ?_)
  subst hg
  generalize hr : peoL (M.1 (tp + 1)) len (M.1 (tp + 2) 0) 8 (p, 0, M.1 (tp + 2 + 12), M.1 (tp + 16)) = r at X
  have key : ∀ (j k : Nat) (Y : zY), k + j = 9 → Y.2.1 + 1 = k → Y.1 ≤ len → peoL (M.1 (tp + 1)) len (M.1 (tp + 2) 0) j Y = r → ZW w g 2 2 [some (.ref (w.2.2 tp)), some (.int (nI k))] [] (tpY M tp Y) := by
    intro j
    induction j with
    | zero =>
      intro k Y hkj hY hle hs
      have hkn : k = 9 := by omega
      subst hkn
      have hs : ((1 : Int32), Y) = r := hs
      subst hs
      refine z_iload_n F dX3_readPeople_2 rfl ?_
      refine z_bipush (v := 8) F dX3_readPeople_3 (by decide) ?_
      refine z_ic_gt (tgt := 40) F dX3_readPeople_5 (by decide) (fun h_5 => ?_) (fun h_5 => absurd h_5 (by decide))
      refine z_iconst (v := 1) F dX3_readPeople_40 (by decide) ?_
      refine z_zret F X dX3_readPeople_41 (by decide) ?_
      exact ⟨rfl, rfl⟩
    | succ j ih =>
      intro k Y hkj hY hle hs
      obtain ⟨q, np, pe, T⟩ := Y
      have hY : np + 1 = k := hY
      have hle : q ≤ len := hle
      rw [peoL] at hs
      have okY := tpY_ok (Y := (q, np, pe, T)) ok hle
      have eL := tpY_L M tp (q, np, pe, T)
      have eT := tpY_T M tp (q, np, pe, T)
      have eR : (tpY M tp (q, np, pe, T)).1 (tp + 2) 0 = M.1 (tp + 2) 0 := by rw [tpY_rb, va_up_ne _ _ (by decide)]
      have hpl := perF_le (L := M.1 (tp + 1)) (nt := M.1 (tp + 2) 0) (T := T) (np := np) hle
      generalize hpf : perF (M.1 (tp + 1)) len q (M.1 (tp + 2) 0) T np = P at hs hpl
      simp only [hpf] at hs
      have okP := tpY_ok (Y := (P.2.1, np + 1, va_up (va_up pe (2 * np) P.2.2.1) (2 * np + 1) P.2.2.2.1, va_up T (5 + np) P.2.2.2.2)) ok hpl
      refine z_iload_n F dX3_readPeople_2 rfl ?_
      refine z_bipush (v := 8) F dX3_readPeople_3 (by decide) ?_
      refine z_ic_gt (tgt := 40) F dX3_readPeople_5 (by decide) (fun h_5 => absurd h_5 (Int32.not_lt.mpr (nI_le (b := 8) (by omega) (by decide)))) (fun h_5 => ?_)
      refine z_aload_n F dX3_readPeople_8 rfl ?_
      refine z_callVi F (c_X3_readPerson J hk okY (np := np) (by rw [tpY_rb, va_up_self]) (by omega)) zm_X3_readPerson zv_X3_readPerson ml_X3_92 (by with_reducible assumption) (by decide) rfl rfl rfl (Nat.le_of_ble_eq_true rfl) dX3_readPeople_9 (by omega) (fun r_9 M_9 h_9 => ?_)
      obtain ⟨e_9, m_9⟩ := h_9
      rw [eL, eR, eT, hpf] at e_9 m_9
      subst e_9
      refine z_if_ne (tgt := 17) F dX3_readPeople_12 (by decide) (fun h_12 => ?_) (fun h_12 => ?_)
      · rw [if_neg h_12, tpY_add] at m_9
        subst m_9
        refine z_iload_n F dX3_readPeople_17 rfl ?_
        refine z_bipush (v := 8) F dX3_readPeople_18 (by decide) ?_
        refine z_ic_eq (tgt := 32) F dX3_readPeople_20 (by decide) (fun h_20 => ?_) (fun h_20 => ?_)
        · refine z_iconst (v := 1) F dX3_readPeople_32 (by decide) ?_
          refine z_zret F X dX3_readPeople_33 (by decide) ?_
          have hj : j = 0 := by have := (nI_eq (b := 8) (by omega) (by decide)).mp h_20; omega
          rw [if_neg h_12, if_pos hj] at hs
          rw [← hs]
          exact ⟨rfl, rfl⟩
        · refine z_aload_n F dX3_readPeople_23 rfl ?_
          refine z_bipush (v := 44) F dX3_readPeople_24 (by decide) ?_
          refine z_callVi F (c_X3_reads J hk okP) zm_X3_reads zv_X3_reads ml_X3_57 (by with_reducible assumption) (by decide) rfl rfl rfl (Nat.le_of_ble_eq_true rfl) dX3_readPeople_26 (by omega) (fun r_26 M_26 h_26 => ?_)
          obtain ⟨e_26, rfl⟩ := h_26
          replace e_26 := Eq.symm e_26
          subst e_26
          rw [tpY_p, tpY_L]
          refine z_if_ne (tgt := 34) F dX3_readPeople_29 (by decide) (fun h_29 => ?_) (fun h_29 => ?_)
          · replace h_29 := bI_1.mp h_29
            refine z_iincc (c := 1) (lv' := [_, _]) F dX3_readPeople_34 rfl (by decide) (by decide) rfl rfl ?_
            refine z_goto (tgt := 2) F dX3_readPeople_37 (by decide) ?_
            have hj : ¬ j = 0 := fun z => h_20 (by rw [show k = 8 by omega]; rfl)
            dsimp only at h_29
            rw [if_neg h_12, if_neg hj, if_pos h_29] at hs
            rw [nI_1]
            exact ih (k + 1) _ (by omega) (by show np + 1 + 1 = k + 1; omega) (rdP_le hpl (by decide)) hs
          · replace h_29 := bI_0.mp h_29
            refine z_iconst (v := 1) F dX3_readPeople_32 (by decide) ?_
            refine z_zret F X dX3_readPeople_33 (by decide) ?_
            have hj : ¬ j = 0 := fun z => h_20 (by rw [show k = 8 by omega]; rfl)
            dsimp only at h_29
            rw [if_neg h_12, if_neg hj, if_neg h_29] at hs
            rw [← hs]
            exact ⟨rfl, rfl⟩
      · rw [if_pos h_12, tpY_p] at m_9
        subst m_9
        refine z_iconst (v := 0) F dX3_readPeople_15 (by decide) ?_
        refine z_zret F X dX3_readPeople_16 (by decide) ?_
        rw [if_pos h_12] at hs
        rw [← hs]
        exact ⟨rfl, rfl⟩
  have k0 := key 8 1 (p, 0, M.1 (tp + 2 + 12), M.1 (tp + 16)) (by omega) rfl ok.2.2.2.1 hr
  have e0 : tpY M tp (p, 0, M.1 (tp + 2 + 12), M.1 (tp + 16)) = M := by
    unfold tpY
    show zs (zs (za (za M (tp + 2 + 12) (M.1 (tp + 2 + 12))) (tp + 16) (M.1 (tp + 16))) (tp + 2) 1 (nI 0)) tp 2 (nI p) = M
    rw [za_self, za_self, zs_id hnp, zs_id ok.2.2.1]
  rw [e0] at k0
  refine z_iconst (v := 1) F dX3_readPeople_0 (by decide) ?_
  refine z_istore_n (lv' := [_, _]) F dX3_readPeople_1 (by decide) rfl rfl ?_
  exact k0
end
section
theorem zm_J0_indexOf_0f7a4 : zMe yJ0_indexOf_0f7a4 cJ0_indexOf_0f7a4 2 (some .int) 1 := ⟨by decide +kernel, zTb_in (List.mem_of_getElem? (i := 438) (by decide +kernel)) (by decide +kernel), zTb_in (List.mem_of_getElem? (i := 46) (by decide +kernel)) (by decide +kernel), by decide +kernel, by decide⟩
theorem zv_J0_indexOf_0f7a4 : zMv yJ0_indexOf_0f7a4 := ⟨zTb_in (List.mem_of_getElem? (i := 436) (by decide +kernel)) (by decide +kernel), zTb_in (List.mem_of_getElem? (i := 437) (by decide +kernel)) (by decide +kernel)⟩
theorem zm_J0_indexOf_7cf53 : zMe yJ0_indexOf_7cf53 cJ0_indexOf_7cf53 3 (some .int) 2 := ⟨by decide +kernel, zTb_in (List.mem_of_getElem? (i := 442) (by decide +kernel)) (by decide +kernel), zTb_in (List.mem_of_getElem? (i := 46) (by decide +kernel)) (by decide +kernel), by decide +kernel, by decide⟩
theorem zv_J0_indexOf_7cf53 : zMv yJ0_indexOf_7cf53 := ⟨zTb_in (List.mem_of_getElem? (i := 440) (by decide +kernel)) (by decide +kernel), zTb_in (List.mem_of_getElem? (i := 441) (by decide +kernel)) (by decide +kernel)⟩
theorem zm_J0_isLatin1_aae02 : zMe yJ0_isLatin1_aae02 cJ0_isLatin1_aae02 1 (some .boolean) 0 := ⟨by decide +kernel, zTb_in (List.mem_of_getElem? (i := 446) (by decide +kernel)) (by decide +kernel), zTb_in (List.mem_of_getElem? (i := 46) (by decide +kernel)) (by decide +kernel), by decide +kernel, by decide⟩
theorem zv_J0_isLatin1_aae02 : zMv yJ0_isLatin1_aae02 := ⟨zTb_in (List.mem_of_getElem? (i := 444) (by decide +kernel)) (by decide +kernel), zTb_in (List.mem_of_getElem? (i := 445) (by decide +kernel)) (by decide +kernel)⟩
theorem zm_J0_length_8abf5 : zMe yJ0_length_8abf5 cJ0_length_8abf5 1 (some .int) 0 := ⟨by decide +kernel, zTb_in (List.mem_of_getElem? (i := 452) (by decide +kernel)) (by decide +kernel), zTb_in (List.mem_of_getElem? (i := 46) (by decide +kernel)) (by decide +kernel), by decide +kernel, by decide⟩
theorem zv_J0_length_8abf5 : zMv yJ0_length_8abf5 := ⟨zTb_in (List.mem_of_getElem? (i := 450) (by decide +kernel)) (by decide +kernel), zTb_in (List.mem_of_getElem? (i := 451) (by decide +kernel)) (by decide +kernel)⟩
theorem zm_J0_coder_7d493 : zMe yJ0_coder_7d493 cJ0_coder_7d493 1 (some .byte) 0 := ⟨by decide +kernel, zTb_in (List.mem_of_getElem? (i := 456) (by decide +kernel)) (by decide +kernel), zTb_in (List.mem_of_getElem? (i := 46) (by decide +kernel)) (by decide +kernel), by decide +kernel, by decide⟩
theorem zv_J0_coder_7d493 : zMv yJ0_coder_7d493 := ⟨zTb_in (List.mem_of_getElem? (i := 454) (by decide +kernel)) (by decide +kernel), zTb_in (List.mem_of_getElem? (i := 455) (by decide +kernel)) (by decide +kernel)⟩
theorem zm_J1_indexOf_4cfef : zMe yJ1_indexOf_4cfef cJ1_indexOf_4cfef 4 (some .int) 4 := ⟨by decide +kernel, zTb_in (List.mem_of_getElem? (i := 459) (by decide +kernel)) (by decide +kernel), zTb_in (List.mem_of_getElem? (i := 47) (by decide +kernel)) (by decide +kernel), by decide +kernel, by decide⟩
theorem zst_J1_indexOf_4cfef : Cond.static yJ1_indexOf_4cfef ∈ zTb := zTb_in (List.mem_of_getElem? (i := 458) (by decide +kernel)) (by decide +kernel)
theorem zm_J1_canEncode_9a6ad : zMe yJ1_canEncode_9a6ad cJ1_canEncode_9a6ad 1 (some .boolean) 1 := ⟨by decide +kernel, zTb_in (List.mem_of_getElem? (i := 462) (by decide +kernel)) (by decide +kernel), zTb_in (List.mem_of_getElem? (i := 47) (by decide +kernel)) (by decide +kernel), by decide +kernel, by decide⟩
theorem zst_J1_canEncode_9a6ad : Cond.static yJ1_canEncode_9a6ad ∈ zTb := zTb_in (List.mem_of_getElem? (i := 461) (by decide +kernel)) (by decide +kernel)
theorem zm_J1_indexOfChar_4cfef : zMe yJ1_indexOfChar_4cfef cJ1_indexOfChar_4cfef 6 (some .int) 4 := ⟨by decide +kernel, zTb_in (List.mem_of_getElem? (i := 471) (by decide +kernel)) (by decide +kernel), zTb_in (List.mem_of_getElem? (i := 47) (by decide +kernel)) (by decide +kernel), by decide +kernel, by decide⟩
theorem zst_J1_indexOfChar_4cfef : Cond.static yJ1_indexOfChar_4cfef ∈ zTb := zTb_in (List.mem_of_getElem? (i := 470) (by decide +kernel)) (by decide +kernel)
theorem ml_X3_79 : Cond.methodLink RX3 79 yJ0_indexOf_0f7a4 ∈ zTb := zTb_in (List.mem_of_getElem? (i := 435) (by decide +kernel)) (by decide +kernel)
theorem ml_J0_633 : Cond.methodLink RJ0 633 yJ0_indexOf_7cf53 ∈ zTb := zTb_in (List.mem_of_getElem? (i := 439) (by decide +kernel)) (by decide +kernel)
theorem ml_J0_492 : Cond.methodLink RJ0 492 yJ0_isLatin1_aae02 ∈ zTb := zTb_in (List.mem_of_getElem? (i := 443) (by decide +kernel)) (by decide +kernel)
theorem ml_J0_505 : Cond.methodLink RJ0 505 yJ0_length_8abf5 ∈ zTb := zTb_in (List.mem_of_getElem? (i := 449) (by decide +kernel)) (by decide +kernel)
theorem ml_J0_335 : Cond.methodLink RJ0 335 yJ0_coder_7d493 ∈ zTb := zTb_in (List.mem_of_getElem? (i := 453) (by decide +kernel)) (by decide +kernel)
theorem ml_J0_637 : Cond.methodLink RJ0 637 yJ1_indexOf_4cfef ∈ zTb := zTb_in (List.mem_of_getElem? (i := 457) (by decide +kernel)) (by decide +kernel)
theorem ml_J1_88 : Cond.methodLink RJ1 88 yJ1_canEncode_9a6ad ∈ zTb := zTb_in (List.mem_of_getElem? (i := 460) (by decide +kernel)) (by decide +kernel)
theorem mm_J1_92 : Cond.methodLink RJ1 92 Lib.Math.max.name ∈ zTb := zTb_in (List.mem_of_getElem? (i := 463) (by decide +kernel)) (by decide +kernel)
theorem mm_J1_38 : Cond.methodLink RJ1 38 Lib.Math.min.name ∈ zTb := zTb_in (List.mem_of_getElem? (i := 466) (by decide +kernel)) (by decide +kernel)
theorem ml_J1_95 : Cond.methodLink RJ1 95 yJ1_indexOfChar_4cfef ∈ zTb := zTb_in (List.mem_of_getElem? (i := 469) (by decide +kernel)) (by decide +kernel)
theorem fl_J0_38 : Cond.fieldLink RJ0 38 "java/lang/String" "COMPACT_STRINGS" "Z" ∈ zTb := zTb_in (List.mem_of_getElem? (i := 447) (by decide +kernel)) (by decide +kernel)
theorem fl_J0_1053 : Cond.fieldLink RJ0 1053 "jdk/internal/util/Preconditions" "SIOOBE_FORMATTER" "Ljava/util/function/BiFunction;" ∈ zTb := zTb_in (List.mem_of_getElem? (i := 490) (by decide +kernel)) (by decide +kernel)
theorem fl_J0_15 : Cond.fieldLink RJ0 15 "java/lang/String" "coder" "B" ∈ zTb := zTb_in (List.mem_of_getElem? (i := 1150) (by decide +kernel)) (by decide +kernel)
theorem fl_J0_9 : Cond.fieldLink RJ0 9 "java/lang/String" "value" "[B" ∈ zTb := zTb_in (List.mem_of_getElem? (i := 1151) (by decide +kernel)) (by decide +kernel)
theorem mx_st : Cond.static Lib.Math.max.name ∈ zTb := zTb_in (List.mem_of_getElem? (i := 464) (by decide +kernel)) (by decide +kernel)
theorem mx_co : Cond.code Lib.Math.max.name Lib.Math.max.code 2 (some .int) ∈ zTb := by decide +kernel
section ZS
variable {w : zE} {g : zG} {own : String} {cc : ByteArray} {nL D pc : Nat} {lv : List (Option Value)} {st : List Value} {M : zM}
theorem z_ldcS (F : zF w g RX3 cc nL D) (hd : decode cc pc = .ok (.ldc 77, 2)) (k : ZW w g nL (pc + 2) lv (.ref (w.2.2 200) :: st) M) : ZW w g nL pc lv st M := fun H locs ls hl hP hS => va_ldcS F.1 F.2.1 F.2.2.2.1 F.2.2.2.2.2.2.2.2.2.2.2.2.2.1 hd (k H locs ls hl hP hS)
theorem z_gcs {idx : Nat} (F : zF w g own cc nL D) (hl : Cond.fieldLink own idx "java/lang/String" "COMPACT_STRINGS" "Z" ∈ zTb) (hd : decode cc pc = .ok (.getstatic idx, 3)) (k : ZW w g nL (pc + 3) lv (.int 1 :: st) M) : ZW w g nL pc lv st M := fun H locs ls hl1 hP hS => va_gets F.1 F.2.1 F.2.2.2.2.2.2.2.2.2.2.2.2.2.2.2 hS F.2.2.2.1 (F.2.2.2.2.1 _ hl) (fun _ h => h) hd (k H locs ls hl1 hP hS)
theorem z_scod {idx : Nat} (F : zF w g own cc nL D) (hl : Cond.fieldLink own idx "java/lang/String" "coder" "B" ∈ zTb) (hd : decode cc pc = .ok (.getfield idx, 3)) (k : ZW w g nL (pc + 3) lv (.int 0 :: st) M) : ZW w g nL pc lv (.ref (w.2.2 200) :: st) M := fun H locs ls hl1 hP hS => vk_getf F.1 F.2.1 (F.2.2.2.2.2.2.2.2.2.2.2.2.2.2.1.1 0 (by decide)).2.1 hS F.2.2.2.1 (F.2.2.2.2.1 _ hl) (fun _ h => h) hd (k H locs ls hl1 hP hS)
theorem z_sval {idx : Nat} (F : zF w g own cc nL D) (hl : Cond.fieldLink own idx "java/lang/String" "value" "[B" ∈ zTb) (hd : decode cc pc = .ok (.getfield idx, 3)) (k : ZW w g nL (pc + 3) lv (.ref (w.2.2 201) :: st) M) : ZW w g nL pc lv (.ref (w.2.2 200) :: st) M := fun H locs ls hl1 hP hS => vk_getf F.1 F.2.1 (F.2.2.2.2.2.2.2.2.2.2.2.2.2.2.1.1 0 (by decide)).2.2.1 hS F.2.2.2.1 (F.2.2.2.2.1 _ hl) (fun _ h => h) hd (k H locs ls hl1 hP hS)
theorem z_slen (F : zF w g own cc nL D) (hd : decode cc pc = .ok (.arraylength, 1)) (k : ZW w g nL (pc + 1) lv (.int 4 :: st) M) : ZW w g nL pc lv (.ref (w.2.2 201) :: st) M := fun H locs ls hl1 hP hS => va_tlen (v := 4) F.1 F.2.1 (F.2.2.2.2.2.2.2.2.2.2.2.2.2.2.1.1 0 (by decide)).2.2.2 hS (by decide) hd (k H locs ls hl1 hP hS)
theorem z_sby {x : Int32} (F : zF w g own cc nL D) (hin : vp_in x 4) (hd : decode cc pc = .ok (.baload, 1)) (k : ZW w g nL (pc + 1) lv (.int (([112, 98, 117, 109] : List Int32).getD x.toNatClampNeg 0) :: st) M) : ZW w g nL pc lv (.int x :: .ref (w.2.2 201) :: st) M := fun H locs ls hl1 hP hS => va_tb F.1 F.2.1 (F.2.2.2.2.2.2.2.2.2.2.2.2.2.2.1.1 0 (by decide)).2.2.2 hS hin rfl hd (k H locs ls hl1 hP hS)
theorem z_max {x y : Int32} {idx : Nat} (F : zF w g own cc nL D) (hl : Cond.methodLink own idx Lib.Math.max.name ∈ zTb) (hst : (st.map fun v => v.category).sum ≤ 8) (hd : decode cc pc = .ok (.invokestatic idx, 3)) (hD : 1 ≤ D) (k : ZW w g nL (pc + 3) lv (.int (if x < y then y else x) :: st) M) : ZW w g nL pc lv (.int y :: .int x :: st) M := fun H locs ls hl1 hP hS => by
  have f1 := F.2.2.2.2.2.2.2.2.2.1
  have f2 := F.2.2.2.2.2.2.2.2.2.2.1
  exact va_mmax F.1 F.2.1 (by rw [F.2.2.1]; exact hl1.1.symm) F.2.2.2.1 (F.2.2.2.2.1 _ hl) (F.2.2.2.2.1 _ mx_st) (F.2.2.2.2.1 _ mi_in) (F.2.2.2.2.1 _ mx_co) (by omega) (by omega) F.2.2.2.2.2.2.2.2.2.2.2.1 F.2.2.2.2.2.2.2.2.2.2.2.2.1 hd (k H locs ls hl1 hP hS)
/-- a call on the tape's own text -/
theorem z_callSt {y : MethodName} {bytes : ByteArray} {maxL n d idx : Nat} {As rest stk : List Value} {ret : Option FieldType} {post : Int32 → zM → Prop} (F : zF w g own cc nL D) (hC : zCi g.1.2.1 w y bytes maxL ret d (.ref (w.2.2 200) :: As) M post) (hm : zMe y bytes maxL ret n) (hv : zMv y) (hl : Cond.methodLink own idx y ∈ zTb) (hcl : y.cls = "java/lang/String") (hn : As.length = n) (hst : stk = As.reverse ++ .ref (w.2.2 200) :: rest) (hcat : (rest.map fun v => v.category).sum ≤ 8) (hd : decode cc pc = .ok (.invokevirtual idx, 3)) (hD : d + 1 ≤ D) (k : ∀ (r : Int32) (M2 : zM), post r M2 → ZW w g nL (pc + 3) lv (.int r :: rest) M2) : ZW w g nL pc lv stk M := fun H locs ls hl1 hP hS =>
  va_calli (va_runV (C := y.cls) ⟨F.1, F.2.1, F.2.2.1, F.2.2.2.1, F.2.2.2.2.1⟩ hC ⟨z_cw F hm hl hD, F.2.2.2.2.1 _ hv.1, F.2.2.2.2.1 _ hv.2⟩ ⟨zPre_blind, hcl ▸ vk_recv F.2.2.2.2.2.2.2.2.2.2.2.2.2.2.1 (i := 0) (by decide) hS, fun U hU hW => ⟨rfl, by rw [hU]; exact hP, va_K.moved hW.alike F.2.2.2.2.2.2.1, zSt_use F.2.2.2.2.2.2.2.2.2.2.2.2.2 hS (fun q ⟨j, hj, e⟩ => e ▸ F.2.2.2.2.2.2.2.2.1 j hj) hW hU⟩⟩ rfl hn hl1.1 hst (lv_room hcat) hd ⟨F.2.2.2.2.2.2.2.2.2.2.2.1, F.2.2.2.2.2.2.2.2.2.2.2.2.1⟩) hS (fun q _ ⟨j, hj, e⟩ => e ▸ F.2.2.2.2.2.2.2.2.1 j hj) (fun q ⟨j, hj, e⟩ => e ▸ F.2.2.2.2.2.2.2.2.1 j hj) (fun r u t H1 locs1 ht hvm hw hB hz1 hk1 hS1 => k r u hw H1 locs1 ls hl1 (ht ▸ hB) hS1)
end ZS
end
section
theorem c_J0_coder {l : Launch} {w : zE} (J : zJ w) {M : zM} : zCi l w yJ0_coder_7d493 cJ0_coder_7d493 1 (some .byte) 0 [.ref (w.2.2 200)] M (fun v M2 => M2 = M ∧ v = 0) := by
  refine zCi_of J zm_J0_coder_7d493 [some (.ref (w.2.2 200))] (Nat.le_of_ble_eq_true rfl) rfl (fun g hg F X => ?_)
  subst hg
  refine z_gcs F fl_J0_38 dJ0_coder_7d493_0 ?_
  refine z_if_eq (tgt := 13) F dJ0_coder_7d493_3 (by decide) (fun h_3 => absurd h_3 (by decide)) (fun h_3 => ?_)
  refine z_aload_n F dJ0_coder_7d493_6 rfl ?_
  refine z_scod F fl_J0_15 dJ0_coder_7d493_7 ?_
  refine z_goto (tgt := 14) F dJ0_coder_7d493_10 (by decide) ?_
  refine z_zret F X dJ0_coder_7d493_14 (by decide) ?_
  exact ⟨rfl, rfl⟩
theorem c_J0_isLatin1 {l : Launch} {w : zE} (J : zJ w) {M : zM} : zCi l w yJ0_isLatin1_aae02 cJ0_isLatin1_aae02 1 (some .boolean) 0 [.ref (w.2.2 200)] M (fun v M2 => M2 = M ∧ v = 1) := by
  refine zCi_of J zm_J0_isLatin1_aae02 [some (.ref (w.2.2 200))] (Nat.le_of_ble_eq_true rfl) rfl (fun g hg F X => ?_)
  subst hg
  refine z_gcs F fl_J0_38 dJ0_isLatin1_aae02_0 ?_
  refine z_if_eq (tgt := 17) F dJ0_isLatin1_aae02_3 (by decide) (fun h_3 => absurd h_3 (by decide)) (fun h_3 => ?_)
  refine z_aload_n F dJ0_isLatin1_aae02_6 rfl ?_
  refine z_scod F fl_J0_15 dJ0_isLatin1_aae02_7 ?_
  refine z_if_ne (tgt := 17) F dJ0_isLatin1_aae02_10 (by decide) (fun h_10 => absurd h_10 (by decide)) (fun h_10 => ?_)
  refine z_iconst (v := 1) F dJ0_isLatin1_aae02_13 (by decide) ?_
  refine z_goto (tgt := 18) F dJ0_isLatin1_aae02_14 (by decide) ?_
  refine z_zret F X dJ0_isLatin1_aae02_18 (by decide) ?_
  exact ⟨rfl, rfl⟩
theorem c_J0_length {l : Launch} {w : zE} (J : zJ w) {M : zM} : zCi l w yJ0_length_8abf5 cJ0_length_8abf5 1 (some .int) 1 [.ref (w.2.2 200)] M (fun v M2 => M2 = M ∧ v = 4) := by
  refine zCi_of J zm_J0_length_8abf5 [some (.ref (w.2.2 200))] (Nat.le_of_ble_eq_true rfl) rfl (fun g hg F X => ?_)
  subst hg
  refine z_aload_n F dJ0_length_8abf5_0 rfl ?_
  refine z_sval F fl_J0_9 dJ0_length_8abf5_1 ?_
  refine z_slen F dJ0_length_8abf5_4 ?_
  refine z_aload_n F dJ0_length_8abf5_5 rfl ?_
  refine z_callSt F (c_J0_coder J) zm_J0_coder_7d493 zv_J0_coder_7d493 ml_J0_335 rfl rfl rfl (Nat.le_of_ble_eq_true rfl) dJ0_length_8abf5_6 (by omega) (fun r_6 M_6 h_6 => ?_)
  obtain ⟨e_6, rfl⟩ := h_6
  replace e_6 := Eq.symm e_6
  subst e_6
  refine z_ishr F dJ0_length_8abf5_9 ?_
  refine z_iret F X dJ0_length_8abf5_10 ?_
  exact ⟨rfl, by decide⟩
theorem c_J1_canEncode {l : Launch} {w : zE} (J : zJ w) {M : zM} {c : Int32} : zCi l w yJ1_canEncode_9a6ad cJ1_canEncode_9a6ad 1 (some .boolean) 0 [.int c] M (fun v M2 => M2 = M ∧ v = bI (0 ≤ c ∧ c ≤ 255)) := by
  refine zCi_of J zm_J1_canEncode_9a6ad [some (.int c)] (Nat.le_of_ble_eq_true rfl) rfl (fun g hg F X => ?_)
  subst hg
  refine z_iload_n F dJ1_canEncode_9a6ad_0 rfl ?_
  refine z_if_lt (tgt := 15) F dJ1_canEncode_9a6ad_1 (by decide) (fun h_1 => ?_) (fun h_1 => ?_)
  · refine z_iconst (v := 0) F dJ1_canEncode_9a6ad_15 (by decide) ?_
    refine z_zret F X dJ1_canEncode_9a6ad_16 (by decide) ?_
    refine ⟨rfl, ?_⟩
    first | exact bI_t ⟨h_1, h_8⟩ | exact bI_f (fun q => nle h_1 q.1) | exact bI_f (fun q => nle h_8 q.2)
  · refine z_iload_n F dJ1_canEncode_9a6ad_4 rfl ?_
    refine z_sipush (v := 255) F dJ1_canEncode_9a6ad_5 (by decide) ?_
    refine z_ic_gt (tgt := 15) F dJ1_canEncode_9a6ad_8 (by decide) (fun h_8 => ?_) (fun h_8 => ?_)
    · refine z_iconst (v := 0) F dJ1_canEncode_9a6ad_15 (by decide) ?_
      refine z_zret F X dJ1_canEncode_9a6ad_16 (by decide) ?_
      refine ⟨rfl, ?_⟩
      first | exact bI_t ⟨h_1, h_8⟩ | exact bI_f (fun q => nle h_1 q.1) | exact bI_f (fun q => nle h_8 q.2)
    · refine z_iconst (v := 1) F dJ1_canEncode_9a6ad_11 (by decide) ?_
      refine z_goto (tgt := 16) F dJ1_canEncode_9a6ad_12 (by decide) ?_
      refine z_zret F X dJ1_canEncode_9a6ad_16 (by decide) ?_
      refine ⟨rfl, ?_⟩
      first | exact bI_t ⟨h_1, h_8⟩ | exact bI_f (fun q => nle h_1 q.1) | exact bI_f (fun q => nle h_8 q.2)
/-- a kind by its letter, or -1 -/
def kndF (c : Int32) : Int32 := if c = 112 then 0 else if c = 98 then 1 else if c = 117 then 2 else if c = 109 then 3 else -1
theorem c_J1_indexOfChar {l : Launch} {w : zE} (J : zJ w) {M : zM} {c : Nat} (hc : c < 128) : zCi l w yJ1_indexOfChar_4cfef cJ1_indexOfChar_4cfef 6 (some .int) 0 [.ref (w.2.2 201), .int (nI c), .int 0, .int 4] M (fun v M2 => M2 = M ∧ v = kndF (nI c)) := by
  have hb : (nI c).toInt8.toInt32 = nI c := (by decide +kernel : ∀ c, c < 128 → (nI c).toInt8.toInt32 = nI c) c hc
  refine zCi_of J zm_J1_indexOfChar_4cfef [some (.ref (w.2.2 201)), some (.int (nI c)), some (.int 0), some (.int 4), none, none] (Nat.le_of_ble_eq_true rfl) rfl (fun g hg F X => ?_)
  subst hg
  refine z_iload_n F dJ1_indexOfChar_4cfef_0 rfl ?_
  refine z_i2b F dJ1_indexOfChar_4cfef_1 ?_
  rw [hb]
  refine z_istore (lv' := [_, _, _, _, _, _]) F dJ1_indexOfChar_4cfef_2 (by decide) rfl rfl ?_
  refine z_iload_n F dJ1_indexOfChar_4cfef_4 rfl ?_
  refine z_istore (lv' := [_, _, _, _, _, _]) F dJ1_indexOfChar_4cfef_5 (by decide) rfl rfl ?_
  refine z_iload F dJ1_indexOfChar_4cfef_7 rfl ?_
  refine z_iload_n F dJ1_indexOfChar_4cfef_9 rfl ?_
  refine z_ic_ge (tgt := 31) F dJ1_indexOfChar_4cfef_10 (by decide) (fun h_10 => absurd h_10 (by decide)) (fun h_10 => ?_)
  refine z_aload_n F dJ1_indexOfChar_4cfef_13 rfl ?_
  refine z_iload F dJ1_indexOfChar_4cfef_14 rfl ?_
  refine z_sby F (vpl 4 (by decide) (by decide)) dJ1_indexOfChar_4cfef_16 ?_
  refine z_iload F dJ1_indexOfChar_4cfef_17 rfl ?_
  refine z_ic_ne (tgt := 25) F dJ1_indexOfChar_4cfef_19 (by decide) (fun h_19 => ?_) (fun h_19 => ?_)
  · refine z_iincc (c := 1) (lv' := [_, _, _, _, _, _]) F dJ1_indexOfChar_4cfef_25 rfl (by decide) (by decide) rfl rfl ?_
    refine z_goto (tgt := 7) F dJ1_indexOfChar_4cfef_28 (by decide) ?_
    refine z_iload F dJ1_indexOfChar_4cfef_7 rfl ?_
    refine z_iload_n F dJ1_indexOfChar_4cfef_9 rfl ?_
    refine z_ic_ge (tgt := 31) F dJ1_indexOfChar_4cfef_10 (by decide) (fun h_10x => absurd h_10x (by decide)) (fun h_10x => ?_)
    refine z_aload_n F dJ1_indexOfChar_4cfef_13 rfl ?_
    refine z_iload F dJ1_indexOfChar_4cfef_14 rfl ?_
    refine z_sby F (vpl 4 (by decide) (by decide)) dJ1_indexOfChar_4cfef_16 ?_
    refine z_iload F dJ1_indexOfChar_4cfef_17 rfl ?_
    refine z_ic_ne (tgt := 25) F dJ1_indexOfChar_4cfef_19 (by decide) (fun h_19x => ?_) (fun h_19x => ?_)
    · refine z_iincc (c := 1) (lv' := [_, _, _, _, _, _]) F dJ1_indexOfChar_4cfef_25 rfl (by decide) (by decide) rfl rfl ?_
      refine z_goto (tgt := 7) F dJ1_indexOfChar_4cfef_28 (by decide) ?_
      refine z_iload F dJ1_indexOfChar_4cfef_7 rfl ?_
      refine z_iload_n F dJ1_indexOfChar_4cfef_9 rfl ?_
      refine z_ic_ge (tgt := 31) F dJ1_indexOfChar_4cfef_10 (by decide) (fun h_10xx => absurd h_10xx (by decide)) (fun h_10xx => ?_)
      refine z_aload_n F dJ1_indexOfChar_4cfef_13 rfl ?_
      refine z_iload F dJ1_indexOfChar_4cfef_14 rfl ?_
      refine z_sby F (vpl 4 (by decide) (by decide)) dJ1_indexOfChar_4cfef_16 ?_
      refine z_iload F dJ1_indexOfChar_4cfef_17 rfl ?_
      refine z_ic_ne (tgt := 25) F dJ1_indexOfChar_4cfef_19 (by decide) (fun h_19xx => ?_) (fun h_19xx => ?_)
      · refine z_iincc (c := 1) (lv' := [_, _, _, _, _, _]) F dJ1_indexOfChar_4cfef_25 rfl (by decide) (by decide) rfl rfl ?_
        refine z_goto (tgt := 7) F dJ1_indexOfChar_4cfef_28 (by decide) ?_
        refine z_iload F dJ1_indexOfChar_4cfef_7 rfl ?_
        refine z_iload_n F dJ1_indexOfChar_4cfef_9 rfl ?_
        refine z_ic_ge (tgt := 31) F dJ1_indexOfChar_4cfef_10 (by decide) (fun h_10xxx => absurd h_10xxx (by decide)) (fun h_10xxx => ?_)
        refine z_aload_n F dJ1_indexOfChar_4cfef_13 rfl ?_
        refine z_iload F dJ1_indexOfChar_4cfef_14 rfl ?_
        refine z_sby F (vpl 4 (by decide) (by decide)) dJ1_indexOfChar_4cfef_16 ?_
        refine z_iload F dJ1_indexOfChar_4cfef_17 rfl ?_
        refine z_ic_ne (tgt := 25) F dJ1_indexOfChar_4cfef_19 (by decide) (fun h_19xxx => ?_) (fun h_19xxx => ?_)
        · refine z_iincc (c := 1) (lv' := [_, _, _, _, _, _]) F dJ1_indexOfChar_4cfef_25 rfl (by decide) (by decide) rfl rfl ?_
          refine z_goto (tgt := 7) F dJ1_indexOfChar_4cfef_28 (by decide) ?_
          refine z_iload F dJ1_indexOfChar_4cfef_7 rfl ?_
          refine z_iload_n F dJ1_indexOfChar_4cfef_9 rfl ?_
          refine z_ic_ge (tgt := 31) F dJ1_indexOfChar_4cfef_10 (by decide) (fun h_10xxxx => ?_) (fun h_10xxxx => absurd h_10xxxx (by decide))
          refine z_iconst (v := (-1)) F dJ1_indexOfChar_4cfef_31 (by decide) ?_
          refine z_iret F X dJ1_indexOfChar_4cfef_32 ?_
          refine ⟨rfl, ?_⟩
          unfold kndF
          simp_all <;> grind
        · refine z_iload F dJ1_indexOfChar_4cfef_22 rfl ?_
          refine z_iret F X dJ1_indexOfChar_4cfef_24 ?_
          refine ⟨rfl, ?_⟩
          unfold kndF
          simp_all <;> grind
      · refine z_iload F dJ1_indexOfChar_4cfef_22 rfl ?_
        refine z_iret F X dJ1_indexOfChar_4cfef_24 ?_
        refine ⟨rfl, ?_⟩
        unfold kndF
        simp_all <;> grind
    · refine z_iload F dJ1_indexOfChar_4cfef_22 rfl ?_
      refine z_iret F X dJ1_indexOfChar_4cfef_24 ?_
      refine ⟨rfl, ?_⟩
      unfold kndF
      simp_all <;> grind
  · refine z_iload F dJ1_indexOfChar_4cfef_22 rfl ?_
    refine z_iret F X dJ1_indexOfChar_4cfef_24 ?_
    refine ⟨rfl, ?_⟩
    unfold kndF
    simp_all <;> grind
theorem c_J1_indexOf {l : Launch} {w : zE} (J : zJ w) {M : zM} {c : Nat} (hc : c < 128) : zCi l w yJ1_indexOf_4cfef cJ1_indexOf_4cfef 4 (some .int) 1 [.ref (w.2.2 201), .int (nI c), .int 0, .int 4] M (fun v M2 => M2 = M ∧ v = kndF (nI c)) := by
  refine zCi_of J zm_J1_indexOf_4cfef [some (.ref (w.2.2 201)), some (.int (nI c)), some (.int 0), some (.int 4)] (Nat.le_of_ble_eq_true rfl) rfl (fun g hg F X => ?_)
  subst hg
  refine z_iload_n F dJ1_indexOf_4cfef_0 rfl ?_
  refine z_callSi F (c_J1_canEncode J) zm_J1_canEncode_9a6ad zst_J1_canEncode_9a6ad ml_J1_88 rfl rfl (Nat.le_of_ble_eq_true rfl) dJ1_indexOf_4cfef_1 (by omega) (fun r_1 M_1 h_1 => ?_)
  obtain ⟨e_1, rfl⟩ := h_1
  replace e_1 := Eq.symm e_1
  subst e_1
  refine z_if_ne (tgt := 9) F dJ1_indexOf_4cfef_4 (by decide) (fun h_4 => ?_) (fun h_4 => ?_)
  · replace h_4 := bI_1.mp h_4
    refine z_iload_n F dJ1_indexOf_4cfef_9 rfl ?_
    refine z_iconst (v := 0) F dJ1_indexOf_4cfef_10 (by decide) ?_
    refine z_max F mm_J1_92 (Nat.le_of_ble_eq_true rfl) dJ1_indexOf_4cfef_11 (by omega) ?_
    refine z_istore_n (lv' := [_, _, _, _]) F dJ1_indexOf_4cfef_14 (by decide) rfl rfl ?_
    refine z_iload_n F dJ1_indexOf_4cfef_15 rfl ?_
    refine z_aload_n F dJ1_indexOf_4cfef_16 rfl ?_
    refine z_slen F dJ1_indexOf_4cfef_17 ?_
    refine z_min F mm_J1_38 (Nat.le_of_ble_eq_true rfl) dJ1_indexOf_4cfef_18 (by omega) ?_
    refine z_istore_n (lv' := [_, _, _, _]) F dJ1_indexOf_4cfef_21 (by decide) rfl rfl ?_
    refine z_iload_n F dJ1_indexOf_4cfef_22 rfl ?_
    refine z_iload_n F dJ1_indexOf_4cfef_23 rfl ?_
    refine z_ic_lt (tgt := 29) F dJ1_indexOf_4cfef_24 (by decide) (fun h_24 => ?_) (fun h_24 => absurd h_24 (by decide))
    refine z_aload_n F dJ1_indexOf_4cfef_29 rfl ?_
    refine z_iload_n F dJ1_indexOf_4cfef_30 rfl ?_
    refine z_iload_n F dJ1_indexOf_4cfef_31 rfl ?_
    refine z_iload_n F dJ1_indexOf_4cfef_32 rfl ?_
    refine z_callSi F (c_J1_indexOfChar J hc) zm_J1_indexOfChar_4cfef zst_J1_indexOfChar_4cfef ml_J1_95 rfl rfl (Nat.le_of_ble_eq_true rfl) dJ1_indexOf_4cfef_33 (by omega) (fun r_33 M_33 h_33 => ?_)
    obtain ⟨e_33, rfl⟩ := h_33
    replace e_33 := Eq.symm e_33
    subst e_33
    refine z_iret F X dJ1_indexOf_4cfef_36 ?_
    exact ⟨rfl, rfl⟩
  · replace h_4 := bI_0.mp h_4
    refine z_iconst (v := (-1)) F dJ1_indexOf_4cfef_7 (by decide) ?_
    refine z_iret F X dJ1_indexOf_4cfef_8 ?_
    exact absurd ⟨nI_pos' (by omega), nI_le (b := 255) (by omega) (by decide)⟩ h_4
theorem c_J0_indexOf2 {l : Launch} {w : zE} (J : zJ w) {M : zM} {c : Nat} (hc : c < 128) : zCi l w yJ0_indexOf_7cf53 cJ0_indexOf_7cf53 3 (some .int) 2 [.ref (w.2.2 200), .int (nI c), .int 0] M (fun v M2 => M2 = M ∧ v = kndF (nI c)) := by
  refine zCi_of J zm_J0_indexOf_7cf53 [some (.ref (w.2.2 200)), some (.int (nI c)), some (.int 0)] (Nat.le_of_ble_eq_true rfl) rfl (fun g hg F X => ?_)
  subst hg
  refine z_aload_n F dJ0_indexOf_7cf53_0 rfl ?_
  refine z_callSt F (c_J0_isLatin1 J) zm_J0_isLatin1_aae02 zv_J0_isLatin1_aae02 ml_J0_492 rfl rfl rfl (Nat.le_of_ble_eq_true rfl) dJ0_indexOf_7cf53_1 (by omega) (fun r_1 M_1 h_1 => ?_)
  obtain ⟨e_1, rfl⟩ := h_1
  replace e_1 := Eq.symm e_1
  subst e_1
  refine z_if_eq (tgt := 23) F dJ0_indexOf_7cf53_4 (by decide) (fun h_4 => absurd h_4 (by decide)) (fun h_4 => ?_)
  refine z_aload_n F dJ0_indexOf_7cf53_7 rfl ?_
  refine z_sval F fl_J0_9 dJ0_indexOf_7cf53_8 ?_
  refine z_iload_n F dJ0_indexOf_7cf53_11 rfl ?_
  refine z_iload_n F dJ0_indexOf_7cf53_12 rfl ?_
  refine z_aload_n F dJ0_indexOf_7cf53_13 rfl ?_
  refine z_callSt F (c_J0_length J) zm_J0_length_8abf5 zv_J0_length_8abf5 ml_J0_505 rfl rfl rfl (Nat.le_of_ble_eq_true rfl) dJ0_indexOf_7cf53_14 (by omega) (fun r_14 M_14 h_14 => ?_)
  obtain ⟨e_14, rfl⟩ := h_14
  replace e_14 := Eq.symm e_14
  subst e_14
  refine z_callSi F (c_J1_indexOf J hc) zm_J1_indexOf_4cfef zst_J1_indexOf_4cfef ml_J0_637 rfl rfl (Nat.le_of_ble_eq_true rfl) dJ0_indexOf_7cf53_17 (by omega) (fun r_17 M_17 h_17 => ?_)
  obtain ⟨e_17, rfl⟩ := h_17
  replace e_17 := Eq.symm e_17
  subst e_17
  refine z_goto (tgt := 36) F dJ0_indexOf_7cf53_20 (by decide) ?_
  refine z_iret F X dJ0_indexOf_7cf53_36 ?_
  exact ⟨rfl, rfl⟩
theorem c_J0_indexOf {l : Launch} {w : zE} (J : zJ w) {M : zM} {c : Nat} (hc : c < 128) : zCi l w yJ0_indexOf_0f7a4 cJ0_indexOf_0f7a4 2 (some .int) 3 [.ref (w.2.2 200), .int (nI c)] M (fun v M2 => M2 = M ∧ v = kndF (nI c)) := by
  refine zCi_of J zm_J0_indexOf_0f7a4 [some (.ref (w.2.2 200)), some (.int (nI c))] (Nat.le_of_ble_eq_true rfl) rfl (fun g hg F X => ?_)
  subst hg
  refine z_aload_n F dJ0_indexOf_0f7a4_0 rfl ?_
  refine z_iload_n F dJ0_indexOf_0f7a4_1 rfl ?_
  refine z_iconst (v := 0) F dJ0_indexOf_0f7a4_2 (by decide) ?_
  refine z_callSt F (c_J0_indexOf2 J hc) zm_J0_indexOf_7cf53 zv_J0_indexOf_7cf53 ml_J0_633 rfl rfl rfl (Nat.le_of_ble_eq_true rfl) dJ0_indexOf_0f7a4_3 (by omega) (fun r_3 M_3 h_3 => ?_)
  obtain ⟨e_3, rfl⟩ := h_3
  replace e_3 := Eq.symm e_3
  subst e_3
  refine z_iret F X dJ0_indexOf_0f7a4_6 ?_
  exact ⟨rfl, rfl⟩
end
section
/-- a letter and a number, or neither: the number -/
def optF (L : zF1) (len p : Nat) (c most : Int32) : Int32 × Nat := if rdB L len p c then numF L len (rdP L len p c) most else (0, rdP L len p c)
theorem optF_le {L : zF1} {len p : Nat} {c most : Int32} (hp : p ≤ len) (hc : ¬ c = 0) : (optF L len p c most).2 ≤ len := by
  have h1 := rdP_le (L := L) hp hc
  unfold optF
  split
  · exact numF_le h1
  · exact h1
abbrev zK5 : Type := Int32 × Int32 × Int32 × Int32
/-- a thing: whether it stands there, the place; kind, worth, load, care -/
def thiF (L : zF1) (len p : Nat) : Int32 × Nat × zK5 :=
  if kndF (chF L len (nxP L (len - p) p)) < 0 then (0, nxP L (len - p) p, 0, 0, 0, 0) else
  if (numF L len (nxP L (len - p) p + 1) 99).1 < 0 then (0, (numF L len (nxP L (len - p) p + 1) 99).2, 0, 0, 0, 0) else
  if (optF L len (numF L len (nxP L (len - p) p + 1) 99).2 108 30).1 < 0 then (0, (optF L len (numF L len (nxP L (len - p) p + 1) 99).2 108 30).2, 0, 0, 0, 0) else
  if (optF L len (optF L len (numF L len (nxP L (len - p) p + 1) 99).2 108 30).2 99 30).1 < 0 then (0, (optF L len (optF L len (numF L len (nxP L (len - p) p + 1) 99).2 108 30).2 99 30).2, 0, 0, 0, 0) else
  (1, (optF L len (optF L len (numF L len (nxP L (len - p) p + 1) 99).2 108 30).2 99 30).2, kndF (chF L len (nxP L (len - p) p)), (numF L len (nxP L (len - p) p + 1) 99).1, (optF L len (numF L len (nxP L (len - p) p + 1) 99).2 108 30).1, (optF L len (optF L len (numF L len (nxP L (len - p) p + 1) 99).2 108 30).2 99 30).1)
theorem knd_lt {L : zF1} {len q : Nat} (h : ¬ kndF (chF L len q) < 0) : q < len := by
  rcases Nat.lt_or_ge q len with z | z
  · exact z
  · refine absurd ?_ h
    rw [chF, if_neg (by omega)]
    decide
theorem thiF_le {L : zF1} {len p : Nat} (hp : p ≤ len) : (thiF L len p).2.1 ≤ len := by
  have h0 := nxP_le L (len - p) p
  unfold thiF
  split
  · show nxP L (len - p) p ≤ len; omega
  · next hk =>
    have h1 := knd_lt hk
    have h2 := numF_le (L := L) (p := nxP L (len - p) p + 1) (most := 99) (by omega : nxP L (len - p) p + 1 ≤ len)
    have h3 := optF_le (L := L) (c := 108) (most := 30) h2 (by decide)
    have h4 := optF_le (L := L) (c := 99) (most := 30) h3 (by decide)
    split
    · exact h2
    · split
      · exact h3
      · split
        · exact h4
        · exact h4
theorem c_X3_readThing {l : Launch} {w : zE} (J : zJ w) {M : zM} {tp len p n : Nat} (hk : zk tp = 3) (ok : tpOK M tp len p) (hnt : M.1 (tp + 2) 0 = nI n) (hn10 : n < 10) : zCi l w yX3_readThing cX3_readThing 5 (some .boolean) 4 [.ref (w.2.2 tp)] M (fun v M2 => v = (thiF (M.1 (tp + 1)) len p).1 ∧ M2 = if v = 0 then zs M tp 2 (nI (thiF (M.1 (tp + 1)) len p).2.1) else zs (za (zs M tp 2 (nI (thiF (M.1 (tp + 1)) len p).2.1)) (tp + 2 + 1) (setF (M.1 (tp + 2 + 1)) n (thiF (M.1 (tp + 1)) len p).2.2.1 (thiF (M.1 (tp + 1)) len p).2.2.2.1 (thiF (M.1 (tp + 1)) len p).2.2.2.2.1 (thiF (M.1 (tp + 1)) len p).2.2.2.2.2)) (tp + 2) 0 (nI (n + 1))) := by
  obtain ⟨k1, k2, k16⟩ := zkf3 tp (zk_i hk (by decide)) hk
  have hL : ∀ v, (zs M tp 2 v).1 (tp + 1) = M.1 (tp + 1) := fun v => zs_off _ (by omega)
  have hR : ∀ v, (zs M tp 2 v).1 (tp + 2) = M.1 (tp + 2) := fun v => zs_off _ (by omega)
  have hT : ∀ v, (zs M tp 2 v).1 (tp + 2 + 1) = M.1 (tp + 2 + 1) := fun v => zs_off _ (by omega)
  have okr : ∀ q, q ≤ len → tpOK (zs M tp 2 (nI q)) tp len q := fun q hq => ok.to hq
  obtain ⟨c, hc, hcc⟩ := chF_n ok.2.2.2.2 (nxP (M.1 (tp + 1)) (len - p) p)
  refine zCi_of J zm_X3_readThing [some (.ref (w.2.2 tp)), none, none, none, none] (Nat.le_of_ble_eq_true rfl) rfl (fun g hg F X => ?_)
  subst hg
  generalize hq : nxP (M.1 (tp + 1)) (len - p) p = q at hcc
  have hth : thiF (M.1 (tp + 1)) len p = thiF (M.1 (tp + 1)) len p := rfl
  conv at hth => rhs; unfold thiF
  rw [hq, hcc] at hth
  generalize hLL : M.1 (tp + 1) = L at hth hL hcc
  generalize hp2 : numF L len (q + 1) 99 = p2 at hth
  generalize ho1 : optF L len p2.2 108 30 = o1 at hth
  generalize ho2 : optF L len o1.2 99 30 = o2 at hth
  have j84 : 0 ≤ kndF (nI c) → 0 ≤ p2.1 → 0 ≤ o1.1 → ZW w g 5 84 [some (.ref (w.2.2 tp)), some (.int (kndF (nI c))), some (.int p2.1), some (.int o1.1), none] [.int o2.1] (zs M tp 2 (nI o2.2)) := by
    intro a1 a2 a3
    rw [if_neg (nlt a1), if_neg (nlt a2), if_neg (nlt a3)] at hth
    rw [hLL] at X
    refine z_istore (lv' := [_, _, _, _, _]) F dX3_readThing_84 (by decide) rfl rfl ?_
    refine z_iload F dX3_readThing_86 rfl ?_
    refine z_if_ge (tgt := 93) F dX3_readThing_88 (by decide) (fun h_88 => ?_) (fun h_88 => ?_)
    · try simp only [hR] at h_88
      refine z_aload_n F dX3_readThing_93 rfl ?_
      refine zg_X3_road F (by with_reducible assumption) fl_X3_18 dX3_readThing_94 (fun hk_94 => ?_)
      refine z_iload_n F dX3_readThing_97 rfl ?_
      refine z_iload_n F dX3_readThing_98 rfl ?_
      refine z_iload_n F dX3_readThing_99 rfl ?_
      refine z_iload F dX3_readThing_100 rfl ?_
      refine z_callVi F (c_X1_addThing J (by with_reducible assumption) (n := n) (by rw [hR]; exact hnt) hn10) zm_X1_addThing zv_X1_addThing ml_X3_88 (by with_reducible assumption) (by decide) rfl rfl rfl (Nat.le_of_ble_eq_true rfl) dX3_readThing_102 (by omega) (fun r_102 M_102 h_102 => ?_)
      obtain ⟨e_102, rfl⟩ := h_102
      replace e_102 := Eq.symm e_102
      subst e_102
      refine z_pop F dX3_readThing_105 rfl ?_
      refine z_iconst (v := 1) F dX3_readThing_106 (by decide) ?_
      refine z_zret F X dX3_readThing_107 (by decide) ?_
      rw [if_neg (nlt h_88)] at hth
      rw [hth, hT]
      exact ⟨rfl, rfl⟩
    · try simp only [hR] at h_88
      refine z_iconst (v := 0) F dX3_readThing_91 (by decide) ?_
      refine z_zret F X dX3_readThing_92 (by decide) ?_
      rw [if_pos h_88] at hth
      rw [hth]
      exact ⟨rfl, rfl⟩
  have j58 : q < len → 0 ≤ kndF (nI c) → 0 ≤ p2.1 → ZW w g 5 58 [some (.ref (w.2.2 tp)), some (.int (kndF (nI c))), some (.int p2.1), none, none] [.int o1.1] (zs M tp 2 (nI o1.2)) := by
    intro hql a1 a2
    have hl2 : p2.2 ≤ len := by rw [← hp2]; exact numF_le (by omega)
    have hl4 : o1.2 ≤ len := by rw [← ho1]; exact optF_le hl2 (by decide)
    have hl5 := rdP_le (L := L) (c := 99) hl4 (by decide)
    have hth0 := hth
    rw [if_neg (nlt a1), if_neg (nlt a2)] at hth0
    rw [hLL] at X
    refine z_istore_n (lv' := [_, _, _, _, _]) F dX3_readThing_58 (by decide) rfl rfl ?_
    refine z_iload_n F dX3_readThing_59 rfl ?_
    refine z_if_ge (tgt := 65) F dX3_readThing_60 (by decide) (fun h_60 => ?_) (fun h_60 => ?_)
    · try simp only [hL] at h_60
      refine z_aload_n F dX3_readThing_65 rfl ?_
      refine z_bipush (v := 99) F dX3_readThing_66 (by decide) ?_
      refine z_callVi F (c_X3_reads J hk (okr _ hl4)) zm_X3_reads zv_X3_reads ml_X3_57 (by with_reducible assumption) (by decide) rfl rfl rfl (Nat.le_of_ble_eq_true rfl) dX3_readThing_68 (by omega) (fun r_68 M_68 h_68 => ?_)
      obtain ⟨e_68, rfl⟩ := h_68
      replace e_68 := Eq.symm e_68
      subst e_68
      simp only [hL, zs_zs]
      refine z_if_eq (tgt := 83) F dX3_readThing_71 (by decide) (fun h_71 => ?_) (fun h_71 => ?_)
      · replace h_71 := bI_0.mp h_71
        try simp only [hL] at h_71
        refine z_iconst (v := 0) F dX3_readThing_83 (by decide) ?_
        have j := j84 a1 a2 h_60
        have eo : optF L len o1.2 99 30 = (0, rdP L len o1.2 99) := if_neg h_71
        rw [ho2] at eo
        rw [eo] at j
        exact j
      · replace h_71 := bI_1.mp h_71
        try simp only [hL] at h_71
        refine z_aload_n F dX3_readThing_74 rfl ?_
        refine z_bipush (v := 30) F dX3_readThing_75 (by decide) ?_
        refine z_callVi F (c_X3_readNumber J hk (okr _ hl5)) zm_X3_readNumber zv_X3_readNumber ml_X3_85 (by with_reducible assumption) (by decide) rfl rfl rfl (Nat.le_of_ble_eq_true rfl) dX3_readThing_77 (by omega) (fun r_77 M_77 h_77 => ?_)
        obtain ⟨e_77, rfl⟩ := h_77
        replace e_77 := Eq.symm e_77
        subst e_77
        simp only [hL, zs_zs]
        refine z_goto (tgt := 84) F dX3_readThing_80 (by decide) ?_
        have j := j84 a1 a2 h_60
        have eo : optF L len o1.2 99 30 = numF L len (rdP L len o1.2 99) 30 := if_pos h_71
        rw [ho2] at eo
        rw [eo] at j
        exact j
    · try simp only [hL] at h_60
      refine z_iconst (v := 0) F dX3_readThing_63 (by decide) ?_
      refine z_zret F X dX3_readThing_64 (by decide) ?_
      rw [if_pos h_60] at hth0
      rw [hth0]
      exact ⟨rfl, rfl⟩
  rw [hLL] at X hq
  refine z_ldcS F dX3_readThing_0 ?_
  refine z_aload_n F dX3_readThing_2 rfl ?_
  refine z_callVi F (c_X3_next J hk ok) zm_X3_next zv_X3_next ml_X3_61 (by with_reducible assumption) (by decide) rfl rfl rfl (Nat.le_of_ble_eq_true rfl) dX3_readThing_3 (by omega) (fun r_3 M_3 h_3 => ?_)
  obtain ⟨e_3, rfl⟩ := h_3
  replace e_3 := Eq.symm e_3
  subst e_3
  rw [hLL, hq, hcc]
  refine z_callSt F (c_J0_indexOf J hc) zm_J0_indexOf_0f7a4 zv_J0_indexOf_0f7a4 ml_X3_79 rfl rfl rfl (Nat.le_of_ble_eq_true rfl) dX3_readThing_6 (by omega) (fun r_6 M_6 h_6 => ?_)
  obtain ⟨e_6, rfl⟩ := h_6
  replace e_6 := Eq.symm e_6
  subst e_6
  refine z_istore_n (lv' := [_, _, _, _, _]) F dX3_readThing_9 (by decide) rfl rfl ?_
  refine z_iload_n F dX3_readThing_10 rfl ?_
  refine z_if_ge (tgt := 16) F dX3_readThing_11 (by decide) (fun h_11 => ?_) (fun h_11 => ?_)
  · try simp only [zs_at, va_up_self, hL] at h_11
    refine z_aload_n F dX3_readThing_16 rfl ?_
    refine z_dup F dX3_readThing_17 rfl ?_
    refine zg_X3_place F (by with_reducible assumption) fl_X3_29 dX3_readThing_18 ?_
    try simp only [zs_at, va_up_self, hL]
    refine z_iconst (v := 1) F dX3_readThing_21 (by decide) ?_
    refine z_iadd F dX3_readThing_22 ?_
    refine zp_X3_place F (by with_reducible assumption) fl_X3_29 dX3_readThing_23 ?_
    have hql : q < len := knd_lt (L := L) (by rw [hcc]; exact nlt h_11)
    rw [zs_zs, nI_1]
    refine z_aload_n F dX3_readThing_26 rfl ?_
    refine z_bipush (v := 99) F dX3_readThing_27 (by decide) ?_
    refine z_callVi F (c_X3_readNumber J hk (okr (q + 1) hql)) zm_X3_readNumber zv_X3_readNumber ml_X3_85 (by with_reducible assumption) (by decide) rfl rfl rfl (Nat.le_of_ble_eq_true rfl) dX3_readThing_29 (by omega) (fun r_29 M_29 h_29 => ?_)
    obtain ⟨e_29, rfl⟩ := h_29
    replace e_29 := Eq.symm e_29
    subst e_29
    simp only [hL, zs_zs, hp2]
    have hl2 : p2.2 ≤ len := by rw [← hp2]; exact numF_le (by omega)
    have hl3 := rdP_le (L := L) (c := 108) hl2 (by decide)
    refine z_istore_n (lv' := [_, _, _, _, _]) F dX3_readThing_32 (by decide) rfl rfl ?_
    refine z_iload_n F dX3_readThing_33 rfl ?_
    refine z_if_ge (tgt := 39) F dX3_readThing_34 (by decide) (fun h_34 => ?_) (fun h_34 => ?_)
    · try simp only [zs_at, va_up_self, hL] at h_34
      refine z_aload_n F dX3_readThing_39 rfl ?_
      refine z_bipush (v := 108) F dX3_readThing_40 (by decide) ?_
      refine z_callVi F (c_X3_reads J hk (okr _ hl2)) zm_X3_reads zv_X3_reads ml_X3_57 (by with_reducible assumption) (by decide) rfl rfl rfl (Nat.le_of_ble_eq_true rfl) dX3_readThing_42 (by omega) (fun r_42 M_42 h_42 => ?_)
      obtain ⟨e_42, rfl⟩ := h_42
      replace e_42 := Eq.symm e_42
      subst e_42
      simp only [hL, zs_zs]
      refine z_if_eq (tgt := 57) F dX3_readThing_45 (by decide) (fun h_45 => ?_) (fun h_45 => ?_)
      · replace h_45 := bI_0.mp h_45
        try simp only [zs_at, va_up_self, hL] at h_45
        refine z_iconst (v := 0) F dX3_readThing_57 (by decide) ?_
        have j := j58 hql h_11 h_34
        have eo : optF L len p2.2 108 30 = (0, rdP L len p2.2 108) := if_neg h_45
        rw [ho1] at eo
        rw [eo] at j
        exact j
      · replace h_45 := bI_1.mp h_45
        try simp only [zs_at, va_up_self, hL] at h_45
        refine z_aload_n F dX3_readThing_48 rfl ?_
        refine z_bipush (v := 30) F dX3_readThing_49 (by decide) ?_
        refine z_callVi F (c_X3_readNumber J hk (okr _ hl3)) zm_X3_readNumber zv_X3_readNumber ml_X3_85 (by with_reducible assumption) (by decide) rfl rfl rfl (Nat.le_of_ble_eq_true rfl) dX3_readThing_51 (by omega) (fun r_51 M_51 h_51 => ?_)
        obtain ⟨e_51, rfl⟩ := h_51
        replace e_51 := Eq.symm e_51
        subst e_51
        simp only [hL, zs_zs]
        refine z_goto (tgt := 58) F dX3_readThing_54 (by decide) ?_
        have j := j58 hql h_11 h_34
        have eo : optF L len p2.2 108 30 = numF L len (rdP L len p2.2 108) 30 := if_pos h_45
        rw [ho1] at eo
        rw [eo] at j
        exact j
    · try simp only [zs_at, va_up_self, hL] at h_34
      refine z_iconst (v := 0) F dX3_readThing_37 (by decide) ?_
      refine z_zret F X dX3_readThing_38 (by decide) ?_
      rw [if_neg (nlt h_11), if_pos h_34] at hth
      rw [hth]
      exact ⟨rfl, rfl⟩
  · try simp only [zs_at, va_up_self, hL] at h_11
    refine z_iconst (v := 0) F dX3_readThing_14 (by decide) ?_
    refine z_zret F X dX3_readThing_15 (by decide) ?_
    rw [if_pos h_11] at hth
    rw [hth]
    exact ⟨rfl, rfl⟩
end
section
abbrev zZ3 : Type := Nat × Nat × zF1
/-- the tape's place, its things -/
def tpZ (M : zM) (tp : Nat) (Z : zZ3) : zM := zs (zs (za M (tp + 2 + 1) Z.2.2) (tp + 2) 0 (nI Z.2.1)) tp 2 (nI Z.1)
theorem tpZ_tp (M : zM) (tp : Nat) (Z : zZ3) : (tpZ M tp Z).1 tp = va_up (M.1 tp) 2 (nI Z.1) := by unfold tpZ; rw [zs_at, zs_off _ (by omega), za_off _ (by omega)]
theorem tpZ_L (M : zM) (tp : Nat) (Z : zZ3) : (tpZ M tp Z).1 (tp + 1) = M.1 (tp + 1) := by unfold tpZ; rw [zs_off _ (by omega), zs_off _ (by omega), za_off _ (by omega)]
theorem tpZ_rb (M : zM) (tp : Nat) (Z : zZ3) : (tpZ M tp Z).1 (tp + 2) = va_up (M.1 (tp + 2)) 0 (nI Z.2.1) := by unfold tpZ; rw [zs_off _ (by omega), zs_at, za_off _ (by omega)]
theorem tpZ_th (M : zM) (tp : Nat) (Z : zZ3) : (tpZ M tp Z).1 (tp + 2 + 1) = Z.2.2 := by unfold tpZ; rw [zs_off _ (by omega), zs_off _ (by omega), za_at]
theorem tpZ_off {M : zM} {tp b : Nat} {Z : zZ3} (h1 : b ≠ tp) (h2 : b ≠ tp + 2) (h3 : b ≠ tp + 2 + 1) : (tpZ M tp Z).1 b = M.1 b := by unfold tpZ; rw [zs_off _ h1, zs_off _ h2, za_off _ h3]
theorem tpZ_p (M : zM) (tp p q n : Nat) (th : zF1) : zs (tpZ M tp (p, n, th)) tp 2 (nI q) = tpZ M tp (q, n, th) := by unfold tpZ; rw [zs_zs]
theorem tpZ_add (M : zM) (tp p q n m : Nat) (th h : zF1) : zs (za (zs (tpZ M tp (p, n, th)) tp 2 (nI q)) (tp + 2 + 1) h) (tp + 2) 0 (nI m) = tpZ M tp (q, m, h) := by
  refine zM_ext (fun k => ?_) rfl
  by_cases h1 : k = tp
  · subst h1; rw [zs_off _ (by omega), za_off _ (by omega), zs_at, tpZ_tp, tpZ_tp, bx_uu]
  by_cases h2 : k = tp + 2
  · subst h2; rw [zs_at, za_off _ (by omega), zs_off _ (by omega), tpZ_rb, tpZ_rb, bx_uu]
  by_cases h3 : k = tp + 2 + 1
  · subst h3; rw [zs_off _ (by omega), za_at, tpZ_th]
  rw [zs_off _ h2, za_off _ h3, zs_off _ h1, tpZ_off h1 h2 h3, tpZ_off h1 h2 h3]
theorem tpZ_ok {M : zM} {tp len p : Nat} {Z : zZ3} (h : tpOK M tp len p) (hq : Z.1 ≤ len) : tpOK (tpZ M tp Z) tp len Z.1 := by
  unfold tpOK at *
  rw [tpZ_tp, tpZ_L, va_up_ne _ _ (by decide), va_up_self]
  exact ⟨h.1, h.2.1, rfl, hq, h.2.2.2.2⟩
def thZ (P : Int32 × Nat × zK5) (q : Nat) (Z : zZ3) : zZ3 := (q, Z.2.1 + 1, setF Z.2.2 Z.2.1 P.2.2.1 P.2.2.2.1 P.2.2.2.2.1 P.2.2.2.2.2)
/-- all things of the tape -/
def thiL (L : zF1) (len : Nat) : Nat → zZ3 → Int32 × zZ3
  | 0, Z => (1, Z)
  | j + 1, Z =>
    if (thiF L len Z.1).1 = 0 then (0, ((thiF L len Z.1).2.1, Z.2.1, Z.2.2)) else
    if j = 0 then (1, thZ (thiF L len Z.1) (thiF L len Z.1).2.1 Z) else
    if rdB L len (thiF L len Z.1).2.1 44 then thiL L len j (thZ (thiF L len Z.1) (rdP L len (thiF L len Z.1).2.1 44) Z)
    else (1, thZ (thiF L len Z.1) (rdP L len (thiF L len Z.1).2.1 44) Z)
theorem thiL_le {L : zF1} {len : Nat} : ∀ (j : Nat) (Z : zZ3), Z.1 ≤ len → (thiL L len j Z).2.1 ≤ len ∧ (thiL L len j Z).2.2.1 ≤ Z.2.1 + j
  | 0, Z, h => ⟨h, Nat.le_refl _⟩
  | j + 1, Z, h => by
    have h1 := thiF_le (L := L) h
    have h2 := rdP_le (L := L) (c := 44) h1 (by decide)
    unfold thiL
    split
    · exact ⟨h1, by show Z.2.1 ≤ _; omega⟩
    · split
      · exact ⟨h1, by show Z.2.1 + 1 ≤ _; omega⟩
      · split
        · have := thiL_le (L := L) j (thZ (thiF L len Z.1) (rdP L len (thiF L len Z.1).2.1 44) Z) h2
          refine ⟨this.1, ?_⟩
          have h3 := this.2
          show _ ≤ Z.2.1 + (j + 1)
          have h4 : (thZ (thiF L len Z.1) (rdP L len (thiF L len Z.1).2.1 44) Z).2.1 = Z.2.1 + 1 := rfl
          omega
        · exact ⟨h2, by show Z.2.1 + 1 ≤ _; omega⟩
theorem c_X3_readThings {l : Launch} {w : zE} (J : zJ w) {M : zM} {tp len p : Nat} (hk : zk tp = 3) (ok : tpOK M tp len p) (hnt : M.1 (tp + 2) 0 = nI 0) : zCi l w yX3_readThings cX3_readThings 2 (some .boolean) 5 [.ref (w.2.2 tp)] M (fun v M2 => v = (thiL (M.1 (tp + 1)) len 10 (p, 0, M.1 (tp + 2 + 1))).1 ∧ M2 = tpZ M tp (thiL (M.1 (tp + 1)) len 10 (p, 0, M.1 (tp + 2 + 1))).2) := by
  refine zCi_of J zm_X3_readThings [some (.ref (w.2.2 tp)), none] (Nat.le_of_ble_eq_true rfl) rfl (fun g hg F X => ?_)
  subst hg
  generalize hr : thiL (M.1 (tp + 1)) len 10 (p, 0, M.1 (tp + 2 + 1)) = r at X
  have key : ∀ (j k : Nat) (Z : zZ3), k + j = 11 → Z.2.1 + 1 = k → Z.1 ≤ len → thiL (M.1 (tp + 1)) len j Z = r → ZW w g 2 2 [some (.ref (w.2.2 tp)), some (.int (nI k))] [] (tpZ M tp Z) := by
    intro j
    induction j with
    | zero =>
      intro k Z hkj hZ hle hs
      have hkn : k = 11 := by omega
      subst hkn
      have hs : ((1 : Int32), Z) = r := hs
      subst hs
      refine z_iload_n F dX3_readThings_2 rfl ?_
      refine z_bipush (v := 10) F dX3_readThings_3 (by decide) ?_
      refine z_ic_gt (tgt := 40) F dX3_readThings_5 (by decide) (fun h_5 => ?_) (fun h_5 => absurd h_5 (by decide))
      refine z_iconst (v := 1) F dX3_readThings_40 (by decide) ?_
      refine z_zret F X dX3_readThings_41 (by decide) ?_
      exact ⟨rfl, rfl⟩
    | succ j ih =>
      intro k Z hkj hZ hle hs
      obtain ⟨q, n, th⟩ := Z
      have hZ : n + 1 = k := hZ
      have hle : q ≤ len := hle
      rw [thiL] at hs
      have okZ := tpZ_ok (Z := (q, n, th)) ok hle
      have eL := tpZ_L M tp (q, n, th)
      have eT := tpZ_th M tp (q, n, th)
      have hpl := thiF_le (L := M.1 (tp + 1)) hle
      generalize hpf : thiF (M.1 (tp + 1)) len q = P at hs hpl
      simp only [hpf] at hs
      have okP := tpZ_ok (Z := thZ P P.2.1 (q, n, th)) ok hpl
      refine z_iload_n F dX3_readThings_2 rfl ?_
      refine z_bipush (v := 10) F dX3_readThings_3 (by decide) ?_
      refine z_ic_gt (tgt := 40) F dX3_readThings_5 (by decide) (fun h_5 => absurd h_5 (Int32.not_lt.mpr (nI_le (b := 10) (by omega) (by decide)))) (fun h_5 => ?_)
      refine z_aload_n F dX3_readThings_8 rfl ?_
      refine z_callVi F (c_X3_readThing J hk okZ (n := n) (by rw [tpZ_rb, va_up_self]) (by omega)) zm_X3_readThing zv_X3_readThing ml_X3_74 (by with_reducible assumption) (by decide) rfl rfl rfl (Nat.le_of_ble_eq_true rfl) dX3_readThings_9 (by omega) (fun r_9 M_9 h_9 => ?_)
      obtain ⟨e_9, m_9⟩ := h_9
      rw [eL] at e_9 m_9
      rw [eT] at m_9
      rw [hpf] at e_9 m_9
      subst e_9
      refine z_if_ne (tgt := 17) F dX3_readThings_12 (by decide) (fun h_12 => ?_) (fun h_12 => ?_)
      · rw [if_neg h_12, tpZ_add] at m_9
        replace m_9 : M_9 = tpZ M tp (thZ P P.2.1 (q, n, th)) := m_9
        subst m_9
        refine z_iload_n F dX3_readThings_17 rfl ?_
        refine z_bipush (v := 10) F dX3_readThings_18 (by decide) ?_
        refine z_ic_eq (tgt := 32) F dX3_readThings_20 (by decide) (fun h_20 => ?_) (fun h_20 => ?_)
        · refine z_iconst (v := 1) F dX3_readThings_32 (by decide) ?_
          refine z_zret F X dX3_readThings_33 (by decide) ?_
          have hj : j = 0 := by have := (nI_eq (b := 10) (by omega) (by decide)).mp h_20; omega
          rw [if_neg h_12, if_pos hj] at hs
          rw [← hs]
          exact ⟨rfl, rfl⟩
        · refine z_aload_n F dX3_readThings_23 rfl ?_
          refine z_bipush (v := 44) F dX3_readThings_24 (by decide) ?_
          refine z_callVi F (c_X3_reads J hk okP) zm_X3_reads zv_X3_reads ml_X3_57 (by with_reducible assumption) (by decide) rfl rfl rfl (Nat.le_of_ble_eq_true rfl) dX3_readThings_26 (by omega) (fun r_26 M_26 h_26 => ?_)
          obtain ⟨e_26, rfl⟩ := h_26
          replace e_26 := Eq.symm e_26
          subst e_26
          rw [show zs (tpZ M tp (thZ P P.2.1 (q, n, th))) tp 2 (nI (rdP ((tpZ M tp (thZ P P.2.1 (q, n, th))).1 (tp + 1)) len (thZ P P.2.1 (q, n, th)).1 44)) = tpZ M tp (thZ P (rdP (M.1 (tp + 1)) len P.2.1 44) (q, n, th)) from by rw [tpZ_L]; exact tpZ_p _ _ _ _ _ _, tpZ_L]
          refine z_if_ne (tgt := 34) F dX3_readThings_29 (by decide) (fun h_29 => ?_) (fun h_29 => ?_)
          · replace h_29 := bI_1.mp h_29
            refine z_iincc (c := 1) (lv' := [_, _]) F dX3_readThings_34 rfl (by decide) (by decide) rfl rfl ?_
            refine z_goto (tgt := 2) F dX3_readThings_37 (by decide) ?_
            have hj : ¬ j = 0 := fun z => h_20 (by rw [show k = 10 by omega]; rfl)
            replace h_29 : rdB (M.1 (tp + 1)) len P.2.1 44 := h_29
            rw [if_neg h_12, if_neg hj, if_pos h_29] at hs
            rw [nI_1]
            exact ih (k + 1) _ (by omega) (by show n + 1 + 1 = k + 1; omega) (rdP_le hpl (by decide)) hs
          · replace h_29 := bI_0.mp h_29
            refine z_iconst (v := 1) F dX3_readThings_32 (by decide) ?_
            refine z_zret F X dX3_readThings_33 (by decide) ?_
            have hj : ¬ j = 0 := fun z => h_20 (by rw [show k = 10 by omega]; rfl)
            replace h_29 : ¬ rdB (M.1 (tp + 1)) len P.2.1 44 := h_29
            rw [if_neg h_12, if_neg hj, if_neg h_29] at hs
            rw [← hs]
            exact ⟨rfl, rfl⟩
      · rw [if_pos h_12, tpZ_p] at m_9
        subst m_9
        refine z_iconst (v := 0) F dX3_readThings_15 (by decide) ?_
        refine z_zret F X dX3_readThings_16 (by decide) ?_
        rw [if_pos h_12] at hs
        rw [← hs]
        exact ⟨rfl, rfl⟩
  have k0 := key 10 1 (p, 0, M.1 (tp + 2 + 1)) (by omega) rfl ok.2.2.2.1 hr
  have e0 : tpZ M tp (p, 0, M.1 (tp + 2 + 1)) = M := by
    unfold tpZ
    show zs (zs (za M (tp + 2 + 1) (M.1 (tp + 2 + 1))) (tp + 2) 0 (nI 0)) tp 2 (nI p) = M
    rw [za_self, zs_id hnt, zs_id ok.2.2.1]
  rw [e0] at k0
  refine z_iconst (v := 1) F dX3_readThings_0 (by decide) ?_
  refine z_istore_n (lv' := [_, _]) F dX3_readThings_1 (by decide) rfl rfl ?_
  exact k0
end
section
abbrev zRd : Type := Nat × zF1 × Nat × zF1 × zF1
def endF (L : zF1) (len p : Nat) (S : zRd) : Int32 × Nat × zRd := (bI (chF L len (nxP L (len - p) p) = 0), nxP L (len - p) p, S)
def hisE (L : zF1) (len p : Nat) (S : zRd) : Int32 × Nat × zRd :=
  if (hisF L len p (nI S.1) S.2.2.2.2 S.2.2.1).1 = 0 then (0, (hisF L len p (nI S.1) S.2.2.2.2 S.2.2.1).2.1, S)
  else endF L len (hisF L len p (nI S.1) S.2.2.2.2 S.2.2.1).2.1 (S.1, S.2.1, S.2.2.1, S.2.2.2.1, va_up S.2.2.2.2 0 (hisF L len p (nI S.1) S.2.2.2.2 S.2.2.1).2.2)
def roadH (L : zF1) (len : Nat) (Y : zY) (nt : Nat) (th : zF1) : Int32 × Nat × zRd := if rdB L len Y.1 59 then hisE L len (rdP L len Y.1 59) (nt, th, Y.2.1, Y.2.2.1, Y.2.2.2) else endF L len (rdP L len Y.1 59) (nt, th, Y.2.1, Y.2.2.1, Y.2.2.2)
/-- behind the things: people, and what he has -/
def roadG (L : zF1) (len p nt : Nat) (th pe T : zF1) : Int32 × Nat × zRd :=
  if rdB L len p 59 then
    (if dgF (chF L len (nxP L (len - rdP L len p 59) (rdP L len p 59))) then
      (if (peoL L len (nI nt) 8 (nxP L (len - rdP L len p 59) (rdP L len p 59), 0, pe, T)).1 = 0 then (0, (peoL L len (nI nt) 8 (nxP L (len - rdP L len p 59) (rdP L len p 59), 0, pe, T)).2.1, (nt, th, 0, pe, T)) else
       roadH L len (peoL L len (nI nt) 8 (nxP L (len - rdP L len p 59) (rdP L len p 59), 0, pe, T)).2 nt th)
    else hisE L len (nxP L (len - rdP L len p 59) (rdP L len p 59)) (nt, th, 0, pe, T))
  else endF L len (rdP L len p 59) (nt, th, 0, pe, T)
def roadF (L : zF1) (len : Nat) (th pe T : zF1) : Int32 × Nat × zRd :=
  if (thiL L len 10 (0, 0, th)).1 = 0 then (0, (thiL L len 10 (0, 0, th)).2.1, (0, th, 0, pe, T))
  else roadG L len (thiL L len 10 (0, 0, th)).2.1 (thiL L len 10 (0, 0, th)).2.2.1 (thiL L len 10 (0, 0, th)).2.2.2 pe T
/-- how the tape stands while a road is read -/
def tpR (M : zM) (tp n : Nat) (M' : zM) (p : Nat) (S : zRd) : Prop := M'.1 tp = va_up (M.1 tp) 2 (nI p) ∧ M'.1 (tp + 2) = va_up (va_up (M.1 (n + 1)) 0 (nI S.1)) 1 (nI S.2.2.1) ∧ M'.1 (tp + 2 + 1) = S.2.1 ∧ M'.1 (tp + 2 + 12) = S.2.2.2.1 ∧ M'.1 (tp + 16) = S.2.2.2.2 ∧ M'.2 = M.2 ∧ ∀ b, b ≠ tp → b ≠ tp + 2 → b ≠ tp + 2 + 1 → b ≠ tp + 2 + 12 → b ≠ tp + 16 → b ≠ tp + 17 → M'.1 b = M.1 b
theorem tpR.p {M M' : zM} {tp n p : Nat} {S : zRd} (h : tpR M tp n M' p S) (q : Nat) : tpR M tp n (zs M' tp 2 (nI q)) q S := by
  obtain ⟨h1, h2, h3, h4, h5, h6, h7⟩ := h
  refine ⟨by rw [zs_at, h1, bx_uu], by rw [zs_off _ (by omega), h2], by rw [zs_off _ (by omega), h3], by rw [zs_off _ (by omega), h4], by rw [zs_off _ (by omega), h5], h6, fun b a1 a2 a3 a4 a5 a6 => by rw [zs_off _ a1]; exact h7 b a1 a2 a3 a4 a5 a6⟩
theorem tpR.his {M M' : zM} {tp n p : Nat} {S : zRd} (h : tpR M tp n M' p S) (t : Int32) : tpR M tp n (zs M' (tp + 16) 0 t) p (S.1, S.2.1, S.2.2.1, S.2.2.2.1, va_up S.2.2.2.2 0 t) := by
  obtain ⟨h1, h2, h3, h4, h5, h6, h7⟩ := h
  refine ⟨by rw [zs_off _ (by omega), h1], by rw [zs_off _ (by omega), h2], by rw [zs_off _ (by omega), h3], by rw [zs_off _ (by omega), h4], by rw [zs_at, h5], h6, fun b a1 a2 a3 a4 a5 a6 => by rw [zs_off _ a5]; exact h7 b a1 a2 a3 a4 a5 a6⟩
theorem tpR.Z {M M' : zM} {tp n p n0 np : Nat} {th pe T : zF1} (h : tpR M tp n M' p (n0, th, np, pe, T)) (Z : zZ3) : tpR M tp n (tpZ M' tp Z) Z.1 (Z.2.1, Z.2.2, np, pe, T) := by
  obtain ⟨h1, h2, h3, h4, h5, h6, h7⟩ := h
  refine ⟨by rw [tpZ_tp, h1, bx_uu], ?_, by rw [tpZ_th], by rw [tpZ_off (by omega) (by omega) (by omega), h4], by rw [tpZ_off (by omega) (by omega) (by omega), h5], h6, fun b a1 a2 a3 a4 a5 a6 => by rw [tpZ_off a1 a2 a3]; exact h7 b a1 a2 a3 a4 a5 a6⟩
  rw [tpZ_rb, h2]
  funext o
  unfold va_up
  by_cases e0 : o = 0
  · subst e0; rfl
  · simp [e0]
theorem tpR.Y {M M' : zM} {tp n p n0 np : Nat} {th pe T : zF1} (h : tpR M tp n M' p (n0, th, np, pe, T)) (Y : zY) : tpR M tp n (tpY M' tp Y) Y.1 (n0, th, Y.2.1, Y.2.2.1, Y.2.2.2) := by
  obtain ⟨h1, h2, h3, h4, h5, h6, h7⟩ := h
  refine ⟨by rw [tpY_tp, h1, bx_uu], by rw [tpY_rb, h2, bx_uu], by rw [tpY_off (by omega) (by omega) (by omega) (by omega), h3], by rw [tpY_pe], by rw [tpY_T], h6, fun b a1 a2 a3 a4 a5 a6 => by rw [tpY_off a1 a2 a4 a5]; exact h7 b a1 a2 a3 a4 a5 a6⟩
theorem tpR.ok {M M' : zM} {tp n p len : Nat} {S : zRd} (h : tpR M tp n M' p S) (hl : M.1 tp 1 = nI len) (h120 : len ≤ 120) (hL : ltOK (M.1 (tp + 1)) len) (hp : p ≤ len) : tpOK M' tp len p := by
  obtain ⟨h1, h2, h3, h4, h5, h6, h7⟩ := h
  unfold tpOK
  rw [h1, h7 (tp + 1) (by omega) (by omega) (by omega) (by omega) (by omega) (by omega), va_up_ne _ _ (by decide), va_up_self]
  exact ⟨hl, h120, rfl, hp, hL⟩
theorem peoL_le {L : zF1} {len : Nat} {nt : Int32} : ∀ (j : Nat) (Y : zY), Y.1 ≤ len → (peoL L len nt j Y).2.1 ≤ len ∧ (peoL L len nt j Y).2.2.1 ≤ Y.2.1 + j
  | 0, Y, h => ⟨h, Nat.le_refl _⟩
  | j + 1, Y, h => by
    have h1 := perF_le (L := L) (nt := nt) (T := Y.2.2.2) (np := Y.2.1) h
    have h2 := rdP_le (L := L) (c := 44) h1 (by decide)
    unfold peoL
    split
    · exact ⟨h1, by show Y.2.1 ≤ _; omega⟩
    · split
      · exact ⟨h1, by show Y.2.1 + 1 ≤ _; omega⟩
      · split
        · have := peoL_le (L := L) (nt := nt) j (rdP L len (perF L len Y.1 nt Y.2.2.2 Y.2.1).2.1 44, Y.2.1 + 1, va_up (va_up Y.2.2.1 (2 * Y.2.1) (perF L len Y.1 nt Y.2.2.2 Y.2.1).2.2.1) (2 * Y.2.1 + 1) (perF L len Y.1 nt Y.2.2.2 Y.2.1).2.2.2.1, va_up Y.2.2.2 (5 + Y.2.1) (perF L len Y.1 nt Y.2.2.2 Y.2.1).2.2.2.2) h2
          refine ⟨this.1, ?_⟩
          have h3 := this.2
          simp only at h3
          omega
        · exact ⟨h2, by show Y.2.1 + 1 ≤ _; omega⟩
theorem hisF_le {L : zF1} {len p np : Nat} {nt : Int32} {T : zF1} (hp : p ≤ len) : (hisF L len p nt T np).2.1 ≤ len := by
  have h1 := rdP_le (L := L) (c := 61) hp (by decide)
  have h2 := freeF_le (L := L) (nt := nt) (T := T) (np := np) h1
  unfold hisF
  split
  · split
    · exact h2
    · exact h2
  · exact h1
def tT0 (T : zF1) : zF1 := va_up (va_up (va_up (va_up T 0 (-4)) 1 0) 2 0) 3 0
theorem tpR_start {M : zM} {tp n : Nat} (htp : tp = 69) (hn1 : n = 1) : tpR M tp n (zs (zs (zs (zs (zs (zs (za (zrd (zs M tp 2 0) (tp + 2) (M.1 (n + 1)) (M.1 (n + 1 + 1)) (M.1 (n + 1 + 12))) (tp + 16) (M.1 (n + 15))) (tp + 2) 0 0) (tp + 2) 1 0) (tp + 16) 0 (-4)) (tp + 16) 1 0) (tp + 16) 2 0) (tp + 16) 3 0) 0 (0, M.1 (n + 1 + 1), 0, M.1 (n + 1 + 12), tT0 (M.1 (n + 15))) := by
  unfold zrd
  refine ⟨?_, ?_, ?_, ?_, ?_, rfl, fun b a1 a2 a3 a4 a5 a6 => ?_⟩
  · rw [zs_off _ (by omega), zs_off _ (by omega), zs_off _ (by omega), zs_off _ (by omega), zs_off _ (by omega), zs_off _ (by omega), za_off _ (by omega), za_off _ (by omega), za_off _ (by omega), za_off _ (by omega), zs_at]; rfl
  · rw [zs_off _ (by omega), zs_off _ (by omega), zs_off _ (by omega), zs_off _ (by omega), zs_at, zs_at, za_off _ (by omega), za_at]; rfl
  · rw [zs_off _ (by omega), zs_off _ (by omega), zs_off _ (by omega), zs_off _ (by omega), zs_off _ (by omega), zs_off _ (by omega), za_off _ (by omega), za_off _ (by omega), za_off _ (by omega), za_at]
  · rw [zs_off _ (by omega), zs_off _ (by omega), zs_off _ (by omega), zs_off _ (by omega), zs_off _ (by omega), zs_off _ (by omega), za_off _ (by omega), za_off _ (by omega), za_at]
  · rw [zs_at, zs_at, zs_at, zs_at, zs_off _ (by omega), zs_off _ (by omega), za_at]; rfl
  · rw [zs_off _ a5, zs_off _ a5, zs_off _ a5, zs_off _ a5, zs_off _ a2, zs_off _ a2, za_off _ a5, za_off _ a2, za_off _ a4, za_off _ a3, zs_off _ a1]
theorem c_X3_readRoad {l : Launch} {w : zE} (J : zJ w) {M : zM} {tp n len : Nat} (hk : zk tp = 3) (hn : zk n = 6) (htp : tp = 69) (hn1 : n = 1) (hl : M.1 tp 1 = nI len) (h120 : len ≤ 120) (hL : ltOK (M.1 (tp + 1)) len) : zCi l w yX3_readRoad cX3_readRoad 3 (some .boolean) 6 [.ref (w.2.2 tp), .ref (w.2.2 n)] M (fun v M2 => v = (roadF (M.1 (tp + 1)) len (M.1 (n + 1 + 1)) (M.1 (n + 1 + 12)) (tT0 (M.1 (n + 15)))).1 ∧ ∃ S, tpR M tp n M2 (roadF (M.1 (tp + 1)) len (M.1 (n + 1 + 1)) (M.1 (n + 1 + 12)) (tT0 (M.1 (n + 15)))).2.1 S ∧ (¬ v = 0 → S = (roadF (M.1 (tp + 1)) len (M.1 (n + 1 + 1)) (M.1 (n + 1 + 12)) (tT0 (M.1 (n + 15)))).2.2)) := by
  obtain ⟨k1, k2, k16⟩ := zkf3 tp (zk_i hk (by decide)) hk
  refine zCi_of J zm_X3_readRoad [some (.ref (w.2.2 tp)), some (.ref (w.2.2 n)), none] (Nat.le_of_ble_eq_true rfl) rfl (fun g hg F X => ?_)
  subst hg
  generalize hR : roadF (M.1 (tp + 1)) len (M.1 (n + 1 + 1)) (M.1 (n + 1 + 12)) (tT0 (M.1 (n + 15))) = R at X
  have hLM : ∀ {M' : zM} {p : Nat} {S : zRd}, tpR M tp n M' p S → M'.1 (tp + 1) = M.1 (tp + 1) := fun h => h.2.2.2.2.2.2 _ (by omega) (by omega) (by omega) (by omega) (by omega) (by omega)
  have jE : ∀ (M' : zM) (p : Nat) (S : zRd) (x2 : Option Value), p ≤ len → tpR M tp n M' p S → endF (M.1 (tp + 1)) len p S = R → ZW w g 3 109 [some (.ref (w.2.2 tp)), some (.ref (w.2.2 n)), x2] [] M' := by
    intro M' p S x2 hp hM hr
    subst hr
    refine z_aload_n F dX3_readRoad_109 rfl ?_
    refine z_callVi F (c_X3_next J hk (hM.ok hl h120 hL hp)) zm_X3_next zv_X3_next ml_X3_61 (by with_reducible assumption) (by decide) rfl rfl rfl (Nat.le_of_ble_eq_true rfl) dX3_readRoad_110 (by omega) (fun r_110 M_110 h_110 => ?_)
    obtain ⟨e_110, rfl⟩ := h_110
    replace e_110 := Eq.symm e_110
    subst e_110
    rw [hLM hM]
    refine z_if_ne (tgt := 120) F dX3_readRoad_113 (by decide) (fun h_113 => ?_) (fun h_113 => ?_)
    · refine z_iconst (v := 0) F dX3_readRoad_120 (by decide) ?_
      refine z_zret F X dX3_readRoad_121 (by decide) ?_
      exact ⟨(bI_f h_113), S, hM.p _, fun z => absurd rfl z⟩
    · refine z_iconst (v := 1) F dX3_readRoad_116 (by decide) ?_
      refine z_goto (tgt := 121) F dX3_readRoad_117 (by decide) ?_
      refine z_zret F X dX3_readRoad_121 (by decide) ?_
      exact ⟨(bI_t h_113), S, hM.p _, fun _ => rfl⟩
  have jH : ∀ (M' : zM) (p : Nat) (S : zRd) (x2 : Option Value), p ≤ len → S.2.2.1 ≤ 8 → tpR M tp n M' p S → hisE (M.1 (tp + 1)) len p S = R → ZW w g 3 100 [some (.ref (w.2.2 tp)), some (.ref (w.2.2 n)), x2] [] M' := by
    intro M' p S x2 hp hnp8 hM hr
    have e1 : M'.1 (tp + 2) 0 = nI S.1 := by rw [hM.2.1]; rfl
    have e2 : M'.1 (tp + 2) 1 = nI S.2.2.1 := by rw [hM.2.1]; rfl
    have e3 := hM.2.2.2.2.1
    have hle := hisF_le (L := M.1 (tp + 1)) (nt := nI S.1) (T := S.2.2.2.2) (np := S.2.2.1) hp
    rw [hisE] at hr
    refine z_aload_n F dX3_readRoad_100 rfl ?_
    refine z_callVi F (c_X3_readHis J hk (hM.ok hl h120 hL hp) e2 hnp8) zm_X3_readHis zv_X3_readHis ml_X3_71 (by with_reducible assumption) (by decide) rfl rfl rfl (Nat.le_of_ble_eq_true rfl) dX3_readRoad_101 (by omega) (fun r_101 M_101 h_101 => ?_)
    obtain ⟨e_101, m_101⟩ := h_101
    rw [hLM hM, e1, e3] at e_101 m_101
    subst e_101
    refine z_if_ne (tgt := 109) F dX3_readRoad_104 (by decide) (fun h_104 => ?_) (fun h_104 => ?_)
    · rw [if_neg h_104] at m_101 hr
      subst m_101
      exact jE _ _ _ _ hle ((hM.p _).his _) hr
    · rw [if_pos h_104] at m_101 hr
      subst m_101
      refine z_iconst (v := 0) F dX3_readRoad_107 (by decide) ?_
      refine z_zret F X dX3_readRoad_108 (by decide) ?_
      subst hr
      exact ⟨rfl, S, hM.p _, fun z => absurd rfl z⟩
  have jP : ∀ (M' : zM) (p : Nat) (nt : Nat) (th pe T : zF1), p ≤ len → tpR M tp n M' p (nt, th, 0, pe, T) → roadG (M.1 (tp + 1)) len p nt th pe T = R → ZW w g 3 59 [some (.ref (w.2.2 tp)), some (.ref (w.2.2 n)), none] [] M' := by
    intro M' p nt th pe T hp hM hr
    have okM := hM.ok hl h120 hL hp
    have hp2 := rdP_le (L := M.1 (tp + 1)) (c := 59) hp (by decide)
    have ok2 := (hM.p (rdP (M.1 (tp + 1)) len p 59)).ok hl h120 hL hp2
    have hp3 := nxP_le (M.1 (tp + 1)) (len - rdP (M.1 (tp + 1)) len p 59) (rdP (M.1 (tp + 1)) len p 59)
    have hM3 := hM.p (nxP (M.1 (tp + 1)) (len - rdP (M.1 (tp + 1)) len p 59) (rdP (M.1 (tp + 1)) len p 59))
    have ok3 := hM3.ok hl h120 hL (by omega)
    have hL1 := hLM hM
    have hL3 := hLM hM3
    have hY := peoL_le (L := M.1 (tp + 1)) (nt := nI nt) 8 (nxP (M.1 (tp + 1)) (len - rdP (M.1 (tp + 1)) len p 59) (rdP (M.1 (tp + 1)) len p 59), 0, pe, T) (by show _ ≤ len; omega)
    rw [roadG] at hr
    refine z_aload_n F dX3_readRoad_59 rfl ?_
    refine z_bipush (v := 59) F dX3_readRoad_60 (by decide) ?_
    refine z_callVi F (c_X3_reads J hk okM) zm_X3_reads zv_X3_reads ml_X3_57 (by with_reducible assumption) (by decide) rfl rfl rfl (Nat.le_of_ble_eq_true rfl) dX3_readRoad_62 (by omega) (fun r_62 M_62 h_62 => ?_)
    obtain ⟨e_62, rfl⟩ := h_62
    replace e_62 := Eq.symm e_62
    subst e_62
    rw [hL1]
    refine z_istore_n (lv' := [_, _, _]) F dX3_readRoad_65 (by decide) rfl rfl ?_
    refine z_iload_n F dX3_readRoad_66 rfl ?_
    refine z_if_eq (tgt := 96) F dX3_readRoad_67 (by decide) (fun h_67 => ?_) (fun h_67 => ?_)
    · replace h_67 := bI_0.mp h_67
      refine z_iload_n F dX3_readRoad_96 rfl ?_
      refine z_if_eq (tgt := 109) F dX3_readRoad_97 (by decide) (fun h_97 => ?_) (fun h_97 => ?_)
      · replace h_97 := bI_0.mp h_97
        rw [if_neg h_67] at hr
        exact jE _ _ _ _ hp2 (hM.p _) hr
      · replace h_97 := bI_1.mp h_97
        exact absurd h_97 h_67
    · replace h_67 := bI_1.mp h_67
      refine z_aload_n F dX3_readRoad_70 rfl ?_
      refine z_callVi F (c_X3_next J hk ok2) zm_X3_next zv_X3_next ml_X3_61 (by with_reducible assumption) (by decide) rfl rfl rfl (Nat.le_of_ble_eq_true rfl) dX3_readRoad_71 (by omega) (fun r_71 M_71 h_71 => ?_)
      obtain ⟨e_71, rfl⟩ := h_71
      replace e_71 := Eq.symm e_71
      subst e_71
      simp only [zs_off _ (show tp + 1 ≠ tp by omega), hL1, zs_zs]
      refine z_callSi F (c_X3_isDigit J) zm_X3_isDigit zst_X3_isDigit ml_X3_65 rfl rfl (Nat.le_of_ble_eq_true rfl) dX3_readRoad_74 (by omega) (fun r_74 M_74 h_74 => ?_)
      obtain ⟨e_74, rfl⟩ := h_74
      replace e_74 := Eq.symm e_74
      subst e_74
      refine z_if_eq (tgt := 96) F dX3_readRoad_77 (by decide) (fun h_77 => ?_) (fun h_77 => ?_)
      · replace h_77 := bI_0.mp h_77
        refine z_iload_n F dX3_readRoad_96 rfl ?_
        refine z_if_eq (tgt := 109) F dX3_readRoad_97 (by decide) (fun h_97 => ?_) (fun h_97 => ?_)
        · replace h_97 := bI_0.mp h_97
          exact absurd h_67 h_97
        · replace h_97 := bI_1.mp h_97
          rw [if_pos h_67, if_neg h_77] at hr
          exact jH _ _ _ _ (by omega) (Nat.zero_le _) hM3 hr
      · replace h_77 := bI_1.mp h_77
        refine z_aload_n F dX3_readRoad_80 rfl ?_
        refine z_callVi F (c_X3_readPeople J hk ok3 (by rw [hM3.2.1]; rfl)) zm_X3_readPeople zv_X3_readPeople ml_X3_68 (by with_reducible assumption) (by decide) rfl rfl rfl (Nat.le_of_ble_eq_true rfl) dX3_readRoad_81 (by omega) (fun r_81 M_81 h_81 => ?_)
        obtain ⟨e_81, m_81⟩ := h_81
        rw [hL3, hM3.2.1, hM3.2.2.2.1, hM3.2.2.2.2.1] at e_81 m_81
        replace e_81 : r_81 = (peoL (M.1 (tp + 1)) len (nI nt) 8 (nxP (M.1 (tp + 1)) (len - rdP (M.1 (tp + 1)) len p 59) (rdP (M.1 (tp + 1)) len p 59), 0, pe, T)).1 := e_81
        replace m_81 : M_81 = tpY (zs M' tp 2 (nI (nxP (M.1 (tp + 1)) (len - rdP (M.1 (tp + 1)) len p 59) (rdP (M.1 (tp + 1)) len p 59)))) tp (peoL (M.1 (tp + 1)) len (nI nt) 8 (nxP (M.1 (tp + 1)) (len - rdP (M.1 (tp + 1)) len p 59) (rdP (M.1 (tp + 1)) len p 59), 0, pe, T)).2 := m_81
        subst e_81
        subst m_81
        rw [if_pos h_67, if_pos h_77] at hr
        generalize peoL (M.1 (tp + 1)) len (nI nt) 8 (nxP (M.1 (tp + 1)) (len - rdP (M.1 (tp + 1)) len p 59) (rdP (M.1 (tp + 1)) len p 59), 0, pe, T) = Y at hr hY ⊢
        have hMY := hM3.Y Y.2
        have okY := hMY.ok hl h120 hL hY.1
        have hp5 := rdP_le (L := M.1 (tp + 1)) (c := 59) hY.1 (by decide)
        have hLY := hLM hMY
        refine z_if_ne (tgt := 89) F dX3_readRoad_84 (by decide) (fun h_84 => ?_) (fun h_84 => ?_)
        · refine z_aload_n F dX3_readRoad_89 rfl ?_
          refine z_bipush (v := 59) F dX3_readRoad_90 (by decide) ?_
          refine z_callVi F (c_X3_reads J hk okY) zm_X3_reads zv_X3_reads ml_X3_57 (by with_reducible assumption) (by decide) rfl rfl rfl (Nat.le_of_ble_eq_true rfl) dX3_readRoad_92 (by omega) (fun r_92 M_92 h_92 => ?_)
          obtain ⟨e_92, rfl⟩ := h_92
          replace e_92 := Eq.symm e_92
          subst e_92
          rw [hLY]
          refine z_istore_n (lv' := [_, _, _]) F dX3_readRoad_95 (by decide) rfl rfl ?_
          refine z_iload_n F dX3_readRoad_96 rfl ?_
          refine z_if_eq (tgt := 109) F dX3_readRoad_97 (by decide) (fun h_97 => ?_) (fun h_97 => ?_)
          · replace h_97 := bI_0.mp h_97
            rw [if_neg h_84, roadH, if_neg h_97] at hr
            exact jE _ _ _ _ hp5 (hMY.p _) hr
          · replace h_97 := bI_1.mp h_97
            rw [if_neg h_84, roadH, if_pos h_97] at hr
            exact jH _ _ _ _ hp5 (by have := hY.2; simp only at this; show _ ≤ 8; omega) (hMY.p _) hr
        · refine z_iconst (v := 0) F dX3_readRoad_87 (by decide) ?_
          refine z_zret F X dX3_readRoad_88 (by decide) ?_
          rw [if_pos h_84] at hr
          subst hr
          exact ⟨rfl, _, hMY, fun z => absurd rfl z⟩
  have hB := tpR_start (M := M) htp hn1
  have w0 : (zrd (zs M tp 2 0) (tp + 2) (M.1 (n + 1)) (M.1 (n + 1 + 1)) (M.1 (n + 1 + 12))).1 (n + 15) = M.1 (n + 15) := by unfold zrd; rw [za_off _ (by omega), za_off _ (by omega), za_off _ (by omega), zs_off _ (by omega)]
  rw [roadF] at hR
  refine z_aload_n F dX3_readRoad_0 rfl ?_
  refine z_iconst (v := 0) F dX3_readRoad_1 (by decide) ?_
  refine zp_X3_place F (by with_reducible assumption) fl_X3_29 dX3_readRoad_2 ?_
  refine z_aload_n F dX3_readRoad_5 rfl ?_
  refine zg_X3_road F (by with_reducible assumption) fl_X3_18 dX3_readRoad_6 (fun hk_6 => ?_)
  refine z_aload_n F dX3_readRoad_9 rfl ?_
  refine zg_X6_road F (by with_reducible assumption) fl_X3_33 dX3_readRoad_10 (fun hk_10 => ?_)
  refine z_callVv F (d_X1_setFrom J (by with_reducible assumption) (by with_reducible assumption) (by omega)) zm_X1_setFrom zv_X1_setFrom ml_X3_36 (by with_reducible assumption) (by decide) rfl rfl rfl (Nat.le_of_ble_eq_true rfl) dX3_readRoad_13 (by omega) (fun M_13 h_13 => ?_)
  replace h_13 := Eq.symm h_13
  subst h_13
  simp only [zs_off _ (show n + 1 ≠ tp by omega), zs_off _ (show n + 1 + 1 ≠ tp by omega), zs_off _ (show n + 1 + 12 ≠ tp by omega)]
  refine z_aload_n F dX3_readRoad_16 rfl ?_
  refine zg_X3_trip F (by with_reducible assumption) fl_X3_25 dX3_readRoad_17 (fun hk_17 => ?_)
  refine z_aload_n F dX3_readRoad_20 rfl ?_
  refine zg_X6_trip F (by with_reducible assumption) fl_X3_40 dX3_readRoad_21 (fun hk_21 => ?_)
  refine z_callVv F (d_X5_setFrom J (by with_reducible assumption) (by with_reducible assumption) (by omega)) zm_X5_setFrom zv_X5_setFrom ml_X3_41 (by with_reducible assumption) (by decide) rfl rfl rfl (Nat.le_of_ble_eq_true rfl) dX3_readRoad_24 (by omega) (fun M_24 h_24 => ?_)
  replace h_24 := Eq.symm h_24
  subst h_24
  rw [w0]
  refine z_aload_n F dX3_readRoad_27 rfl ?_
  refine zg_X3_road F (by with_reducible assumption) fl_X3_18 dX3_readRoad_28 (fun hk_28 => ?_)
  refine z_iconst (v := 0) F dX3_readRoad_31 (by decide) ?_
  refine zp_X1_thingCount F (by with_reducible assumption) fl_X3_44 dX3_readRoad_32 ?_
  refine z_aload_n F dX3_readRoad_35 rfl ?_
  refine zg_X3_road F (by with_reducible assumption) fl_X3_18 dX3_readRoad_36 (fun hk_36 => ?_)
  refine z_iconst (v := 0) F dX3_readRoad_39 (by decide) ?_
  refine zp_X1_personCount F (by with_reducible assumption) fl_X3_47 dX3_readRoad_40 ?_
  refine z_aload_n F dX3_readRoad_43 rfl ?_
  refine zg_X3_trip F (by with_reducible assumption) fl_X3_25 dX3_readRoad_44 (fun hk_44 => ?_)
  refine z_callVv F (c_X5_setOut J (by with_reducible assumption)) zm_X5_setOut zv_X5_setOut ml_X3_50 (by with_reducible assumption) (by decide) rfl rfl rfl (Nat.le_of_ble_eq_true rfl) dX3_readRoad_47 (by omega) (fun M_47 h_47 => ?_)
  replace h_47 := Eq.symm h_47
  subst h_47
  generalize zs (zs (zs (zs (zs (zs (za (zrd (zs M tp 2 0) (tp + 2) (M.1 (n + 1)) (M.1 (n + 1 + 1)) (M.1 (n + 1 + 12))) (tp + 16) (M.1 (n + 15))) (tp + 2) 0 0) (tp + 2) 1 0) (tp + 16) 0 (-4)) (tp + 16) 1 0) (tp + 16) 2 0) (tp + 16) 3 0 = B at hB ⊢
  have okB := hB.ok hl h120 hL (Nat.zero_le _)
  have hLB := hLM hB
  have hZ := thiL_le (L := M.1 (tp + 1)) (len := len) 10 (0, 0, M.1 (n + 1 + 1)) (Nat.zero_le _)
  refine z_aload_n F dX3_readRoad_50 rfl ?_
  refine z_callVi F (c_X3_readThings J hk okB (by rw [hB.2.1]; rfl)) zm_X3_readThings zv_X3_readThings ml_X3_53 (by with_reducible assumption) (by decide) rfl rfl rfl (Nat.le_of_ble_eq_true rfl) dX3_readRoad_51 (by omega) (fun r_51 M_51 h_51 => ?_)
  obtain ⟨e_51, m_51⟩ := h_51
  rw [hLB, hB.2.2.1] at e_51 m_51
  replace e_51 : r_51 = (thiL (M.1 (tp + 1)) len 10 (0, 0, M.1 (n + 1 + 1))).1 := e_51
  replace m_51 : M_51 = tpZ B tp (thiL (M.1 (tp + 1)) len 10 (0, 0, M.1 (n + 1 + 1))).2 := m_51
  subst e_51
  subst m_51
  refine z_if_ne (tgt := 59) F dX3_readRoad_54 (by decide) (fun h_54 => ?_) (fun h_54 => ?_)
  · rw [if_neg h_54] at hR
    exact jP _ _ _ _ _ _ hZ.1 (hB.Z _) hR
  · refine z_iconst (v := 0) F dX3_readRoad_57 (by decide) ?_
    refine z_zret F X dX3_readRoad_58 (by decide) ?_
    rw [if_pos h_54] at hR
    subst hR
    exact ⟨rfl, _, hB.Z _, fun z => absurd rfl z⟩
end
