theorem st_K {s : State} {args : Array Value} (hts : ∀ w ∈ lw_tbl, w.before args s = true) : ∃ (D : va_G) (cA : Nat → ClassId), va_K D vwCl [(cA 0, .char), (cA 1, .int), (cA 2, .long), (cA 3, .object RX2), (cA 4, .object RX4), (cA 5, .object RX5)] s := by
  obtain ⟨c0, i0, k0⟩ := u_known hts inX0 (hts (.instantiable RX0 5) (by decide +kernel))
  obtain ⟨c1, i1, k1⟩ := u_known hts inX1 (hts (.instantiable RX1 7) (by decide +kernel))
  obtain ⟨c2, i2, k2⟩ := u_known hts inX2 (hts (.instantiable RX2 4) (by decide +kernel))
  obtain ⟨c3, i3, k3⟩ := u_known hts inX3 (hts (.instantiable RX3 5) (by decide +kernel))
  obtain ⟨c4, i4, k4⟩ := u_known hts inX4 (hts (.instantiable RX4 4) (by decide +kernel))
  obtain ⟨c5, i5, k5⟩ := u_known hts inX5 (hts (.instantiable RX5 7) (by decide +kernel))
  obtain ⟨c6, i6, k6⟩ := u_known hts inX6 (hts (.instantiable RX6 4) (by decide +kernel))
  obtain ⟨c7, i7, k7⟩ := u_known hts inX7 (hts (.instantiable RX7 6) (by decide +kernel))
  obtain ⟨c8, i8, k8⟩ := u_known hts inX8 (hts (.instantiable RX8 30) (by decide +kernel))
  obtain ⟨a0, q0, p0, u0, v0, x0⟩ := Cond.arrayClass_spec (hts (.arrayClass .char) (by decide +kernel))
  obtain ⟨a1, q1, p1, u1, v1, x1⟩ := Cond.arrayClass_spec (hts (.arrayClass .int) (by decide +kernel))
  obtain ⟨a2, q2, p2, u2, v2, x2⟩ := Cond.arrayClass_spec (hts (.arrayClass .long) (by decide +kernel))
  obtain ⟨p3, a3, q3, h3, -, v3, x3, u3⟩ := Cond.arrayOver_spec (hts (.arrayOver (.object RX2)) (by decide +kernel))
  obtain ⟨p4, a4, q4, h4, -, v4, x4, u4⟩ := Cond.arrayOver_spec (hts (.arrayOver (.object RX4)) (by decide +kernel))
  obtain ⟨p5, a5, q5, h5, -, v5, x5, u5⟩ := Cond.arrayOver_spec (hts (.arrayOver (.object RX5)) (by decide +kernel))
  refine ⟨(fun c => match c with | 0 => c0 | 1 => c1 | 2 => c2 | 3 => c3 | 4 => c4 | 5 => c5 | 6 => c6 | 7 => c7 | _ => c8, fun c => match c with | 0 => i0 | 1 => i1 | 2 => i2 | 3 => i3 | 4 => i4 | 5 => i5 | 6 => i6 | 7 => i7 | _ => i8), fun c => match c with | 0 => a0 | 1 => a1 | 2 => a2 | 3 => a3 | 4 => a4 | _ => a5, fun c q hq => ?_, fun k q hq => ?_⟩
  · match c, hq with
    | 0, hq => cases hq; exact k0
    | 1, hq => cases hq; exact k1
    | 2, hq => cases hq; exact k2
    | 3, hq => cases hq; exact k3
    | 4, hq => cases hq; exact k4
    | 5, hq => cases hq; exact k5
    | 6, hq => cases hq; exact k6
    | 7, hq => cases hq; exact k7
    | 8, hq => cases hq; exact k8
    | n + 9, hq => cases hq
  · match k, hq with
    | 0, hq => cases hq; exact ⟨fun n z => ⟨fun k h => (by cases h), q0, v0, p0, x0⟩, u0⟩
    | 1, hq => cases hq; exact ⟨fun n z => ⟨fun k h => (by cases h), q1, v1, p1, x1⟩, u1⟩
    | 2, hq => cases hq; exact ⟨fun n z => ⟨fun k h => (by cases h), q2, v2, p2, x2⟩, u2⟩
    | 3, hq => cases hq; exact ⟨fun n z => ⟨fun k h => (by cases h), q3, v3, p3, x3⟩, q3, p3, v3, x3, h3, u3⟩
    | 4, hq => cases hq; exact ⟨fun n z => ⟨fun k h => (by cases h), q4, v4, p4, x4⟩, q4, p4, v4, x4, h4, u4⟩
    | 5, hq => cases hq; exact ⟨fun n z => ⟨fun k h => (by cases h), q5, v5, p5, x5⟩, q5, p5, v5, x5, h5, u5⟩
    | n + 6, hq => cases hq
theorem st_X {s : State} {args : Array Value} (hts : ∀ w ∈ lw_tbl, w.before args s = true) : bX s := ⟨⟨va_AO.of (hts (.arrayOver (.object RX4)) (by decide +kernel)), va_AO.of (hts (.arrayOver (.object RX5)) (by decide +kernel)), va_AO.of (hts (.arrayOver (.object RX2)) (by decide +kernel))⟩, va_Nw.of rfl (hts (.methodLinkNest RX1 31 yX4_init RX7) (by decide +kernel)), va_Nw.of rfl (hts (.methodLinkNest RX6 20 yX5_init RX7) (by decide +kernel)), va_Nw.of rfl (hts (.methodLinkNest RX7 21 yX3_init RX7) (by decide +kernel)), va_Nw.of rfl (hts (.methodLinkNest RX3 24 yX5_init RX7) (by decide +kernel)), va_Nw.of rfl (hts (.methodLinkNest RX0 20 yX5_init RX7) (by decide +kernel)), va_Nw.of rfl (hts (.methodLinkNest RX7 39 yX2_init RX7) (by decide +kernel))⟩
theorem st_T {s : State} {args : Array Value} (hts : ∀ w ∈ lw_tbl, w.before args s = true) (hgv : (Jvm.Cond.and given_1 narrow_1).before args s = true) : ∃ a b : Nat, ∀ (D : va_G) (cA : Nat → ClassId), zSt (zw D cA s.heap.size a b) (bA s.heap.size) s s.heap := by
  have hs := flat_of_before _ hgv
  have hA : ∀ a : Nat, a < s.heap.size → ¬ bA s.heap.size a := fun a h q => Nat.not_le.mpr h q
  have e1 := hs (.exactly (.string "GladRoad$Tape" 77) "java/lang/String") (by decide +kernel)
  have e2 := hs (.eq (.field (.string "GladRoad$Tape" 77) "java/lang/String" "coder" "B") (.int 0)) (by decide +kernel)
  have e3 := hs (.arrayOf (.field (.string "GladRoad$Tape" 77) "java/lang/String" "value" "[B") .byte) (by decide +kernel)
  have e4 := hs (.eq (.length (.field (.string "GladRoad$Tape" 77) "java/lang/String" "value" "[B")) (.int 4)) (by decide +kernel)
  have x0 := hs (.eq (.elem (.field (.string "GladRoad$Tape" 77) "java/lang/String" "value" "[B") (.int 0)) (.int 112)) (by decide +kernel)
  have x1 := hs (.eq (.elem (.field (.string "GladRoad$Tape" 77) "java/lang/String" "value" "[B") (.int 1)) (.int 98)) (by decide +kernel)
  have x2 := hs (.eq (.elem (.field (.string "GladRoad$Tape" 77) "java/lang/String" "value" "[B") (.int 2)) (.int 117)) (by decide +kernel)
  have x3 := hs (.eq (.elem (.field (.string "GladRoad$Tape" 77) "java/lang/String" "value" "[B") (.int 3)) (.int 109)) (by decide +kernel)
  have g1 : ∀ i : Nat, i < 1 → (Cond.eq (.length (.field ((fun _ : Nat => Term.string "GladRoad$Tape" 77) i) "java/lang/String" "value" "[B")) (.int (Int32.ofNat (([4] : List Nat).getD i 0)))).before args s = true := by
    intro i hi
    obtain rfl : i = 0 := by omega
    exact e4
  have g2 : ∀ i : Nat, i < 1 → ∀ j : Nat, j < ([4] : List Nat).getD i 0 → (Cond.eq (.elem (.field ((fun _ : Nat => Term.string "GladRoad$Tape" 77) i) "java/lang/String" "value" "[B") (.int (Int32.ofNat j))) (.int ((([[112, 98, 117, 109]] : List (List Int32)).getD i []).getD j 0))).before args s = true := by
    intro i hi j hj
    obtain rfl : i = 0 := by omega
    have hj : j < 4 := hj
    match j, hj with
    | 0, _ => exact x0
    | 1, _ => exact x1
    | 2, _ => exact x2
    | 3, _ => exact x3
    | n + 4, h => omega
  have g3 : ∀ i : Nat, i < 1 → ([4] : List Nat).getD i 0 < 2 ^ 31 := by decide
  obtain ⟨adK, adV, h1, h2⟩ := vk_Sof (args := args) (s := s) (N := 1) (tm := fun _ => .string "GladRoad$Tape" 77) (len := [4]) (byt := [[112, 98, 117, 109]]) (A := bA s.heap.size) g3 (fun _ _ => e1) (fun _ _ => e2) (fun _ _ => e3) g1 g2 (fun i j hi hj hne => absurd (by omega) hne) hA
  refine ⟨adK 0, adV 0, fun D cA => ⟨vk_R.of (hts (.stringRef "GladRoad$Tape" 77 "pbum") (by decide +kernel)) (h2 0 (by decide)), ⟨fun i hi => ?_, fun i j hi hj _ => by omega⟩, va_Zof (hts (.laysStatic "java/lang/String" "COMPACT_STRINGS" "Z") (by decide +kernel)) (hts (.initialized "java/lang/String") (by decide +kernel)) (va_eqt (hs (.eq (.static "java/lang/String" "COMPACT_STRINGS" "Z") (.int 1)) (by decide +kernel))) hA⟩⟩
  obtain rfl : i = 0 := by omega
  exact h1.1 0 (by decide)
theorem zSt_use2 {w : zE} {A : Nat → Prop} {s U : State} {H : Heap} {locs : List Loc} (h : zSt w A s s.heap) (hS : va_S A s.heap H locs) (hW : s.WarmedH U.vm) (hU : U.heap = H) : zSt w A U U.heap := by
  subst hU
  exact ⟨vk_R.warm hW h.1, (h.2.1.kept hS.2.1).moved hW.alike, (h.2.2.kept hS.2.1).moved hW.alike⟩
theorem p8_blind {D : va_G} {cA : Nat → ClassId} {sz a b : Nat} {f : Nat → va_E} : FrameBlind (p8 D cA sz a b f) := fun ar U g mk q => by
  obtain ⟨q0, q1, q2, q3, q4, q5, q6, q7⟩ := q
  have hv : U.vm.Alike (U.calling g mk ar).vm := Vm.Alike.refl U.vm
  exact ⟨q0, q1, q2, va_K.moved hv q3, q4.same rfl, q5.same rfl, q6.moved hv, q7.moved hv⟩
/-- the call of the reference's constructor: behind it stands the whole memory -/
theorem b_call8 {D : va_G} {cA : Nat → ClassId} {sz a b : Nat} {f : Nat → va_E} {g : zG} {own : String} {cc : ByteArray} {nL Dp pc idx sl : Nat} {lv : List (Option Value)} {rest : List Value} (F : bF (zw D cA sz a b) sz 0 g own cc nL Dp) (hT : zSt (zw D cA sz a b) (bA sz) g.2.1.1 g.2.1.1.heap) (hl : Cond.methodLink own idx yX8_init ∈ zTb) (hcat : (rest.map fun v => v.category).sum ≤ 8) (hd : decode cc pc = .ok (.invokespecial idx, 3)) (hD : 3 ≤ Dp) (h1 : 139 + 15 ≤ g.1.2.2.2.cells) (h2 : sl + 671 ≤ g.1.2.2.2.slots) (k : ∀ (H1 : Heap) (locs1 : List Loc) (ls : Array Slot), lv_has ls nL (zL 0 lv) → zP (zw D cA sz a b) M1 H1 → va_S (bA sz) g.2.1.1.heap H1 locs1 → W g.1.1 g.1.2.1 g.1.2.2.1 g.1.2.2.2 g.2.1.1 g.2.1.2.1 g.2.1.2.2.1 g.2.1.2.2.2 g.2.2.1.1 g.2.2.1.2.1 H1 locs1 (139 + 15) (sl + 671) g.2.2.2.2 (F0 g.2.1.2.1 (pc + 3) ls rest)) : BW (zw D cA sz a b) sz 0 g nL pc lv (.ref (sz + 138) :: rest) (va_up (tX7 (zw D cA sz a b) sz 0 f) 138 (.inr (8, d8L))) 139 sl := fun H locs ls hl1 hP hS => b_size fun hz => by
  have f1 := F.2.2.2.2.2.2.2.2.1
  have f2 := F.2.2.2.2.2.2.2.2.2.1
  have hzz := b_cells F hP hS.1 hz
  have hm := zm_X8_init
  exact va_callv (va_runI (As := []) (rest := rest) ⟨F.1, F.2.1, F.2.2.1, F.2.2.2.1, F.2.2.2.2.1⟩ (c_X8_init (l := g.1.2.1) (D := D) (cA := cA) (sz := sz) (a := a) (b := b) (f := f)) (cwI 0 F.2.2.2.2.1 (zGood hm) rfl rfl rfl (F.2.2.2.2.1 _ hm.2.2.1) (F.2.2.2.2.1 _ hl) (F.2.2.2.2.1 _ bm_X8) rfl hm.2.2.2.1 ⟨by show 2 + 1 ≤ _; omega, by show 8 + (2 + 11) + 60 * 2 ≤ _; omega⟩) ⟨p8_blind, fun U hU hW => ⟨rfl, by rw [hU]; exact hzz, by rw [hU]; exact hP, va_K.moved hW.alike F.2.2.2.2.2.2.1, bX.warm hW F.2.2.2.2.2.2.2.2.2.2, zSt_use2 hT hS hW hU⟩⟩ rfl rfl hl1.1 rfl (lv_room hcat) hd ⟨h1, h2⟩) hS (fun q _ h => h) (fun q h => h) (fun u t H1 locs1 ht hvm hw hB hz1 hk1 hS1 => k H1 locs1 ls hl1 (by have hB : zP (zw D cA sz a b) u t.heap := hB; rw [show u = M1 from hw, ht] at hB; exact hB) hS1)
