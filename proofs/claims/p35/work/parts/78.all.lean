section
/-! THE CLAIM OUT OF ONE WALK OF THE LAW'S BODY. Your part is whole_start (and what it stands on); all else here is the same for every law, but numbers. -/
def R_law : String := "GladRoadLaw"
def lw_P (b : Addr) (xs : List Int32) (args : Array Value) (s : State) : Prop := args = #[.ref b] ∧ s.IntsAt b xs ∧ xs.length ≤ 3072 ∧ (Jvm.Cond.and given_1 narrow_1).before args s = true
def lw_Q (_ : Array Value) (s : State) (o : Outcome) (t : State) : Prop := o = .returned (some (.int 1)) ∧ Framed s o t [] 600000 7302250
def lw_Z (below : List Frame) (a : Array Value) (s : State) : State → Prop := fun t => ∃ o, t.status = .running ∧ Ended t below o ∧ lw_Q a s o t
/-- the law's own end, with 1 on the stack, nothing written that was there before, its room as the claim has it -/
theorem lw_ret {p : Program} {l : Launch} {e : Env} {s : State} {m : MethodId} {below : List Frame} {meth : Method} {c : Code} {b : Nat} (hx : p.tables.exec = Jvm.exec) (hb : c.code = code) (hr : meth.sig.returnType = ret) (hlocks : meth.locks = false) {pc : Nat} {H : Heap} {ls : Array Slot} (hdg : decode code pc = .ok (.ireturn, 1)) : W p l e room_1 s m #[Value.ref b] below meth c H [] 600000 7302250 (lw_Z below #[Value.ref b] s) (F0 m pc ls [.int 1]) := by
  intro T hT X
  obtain ⟨fs, hret, hrun, hended, hW, hframe⟩ := X.leave (v := some (.int 1)) (hlocks := hlocks) (fun h => by rw [hr] at h; cases h)
  have hmeth' : T.vm.method? m = some meth := X.method'
  refine ⟨T.setFrames fs, ?_, .returned (some (.int 1)), hrun, hended, rfl, ⟨_, rfl⟩, hW, hframe⟩
  jvm_step X.here [X.here.top, hx, hb, hdg, hmeth', hr, ret, narrow_b1]
  (try refine ⟨rfl, ?_⟩); (try refine ⟨rfl, ?_⟩)
  first | (intro acts; rw [hret _ acts rfl rfl rfl]) | rw [hret _ _ rfl rfl rfl]
  exact Steps.refl _
/-- what holds at the law's entry: the machine, the code, the tables' words (any of lw_tbl by 'hts w (by decide +kernel)'), the script of L ints xs at the cell b, what the Statement gives of the start (any of its parts by flat_of_before) -/
def lw_At (p : Program) (s : State) (m : MethodId) (meth : Method) (c : Code) (b L : Nat) (xs : Nat → Int32) : Prop :=
  p.tables.exec = Jvm.exec ∧ c.code = code ∧ meth.sig.returnType = ret ∧ c.maxLocals = 4 ∧ s.vm.findClass R_law = some m.cls ∧ (∀ w ∈ lw_tbl, w.before #[Value.ref b] s = true) ∧ va_X b L xs s s.heap ∧ b < s.heap.size ∧ meth.locks = false ∧ (Jvm.Cond.and given_1 narrow_1).before #[Value.ref b] s = true
end
section
theorem st_K {s : State} {args : Array Value} (hts : ∀ w ∈ lw_tbl, w.before args s = true) : ∃ (D : va_G) (cA : Nat → ClassId), va_K D vwCl [(cA 0, .char), (cA 1, .int), (cA 2, .long), (cA 3, .object RX2), (cA 4, .object RX4), (cA 5, .object RX5)] s := by
  obtain ⟨c0, i0, k0⟩ := u_known hts inX0 (hts (.instantiable RX0 5) (by decide +kernel))
  obtain ⟨c1, i1, k1⟩ := u_known hts inX1 (hts (.instantiable RX1 7) (by decide +kernel))
  obtain ⟨c2, i2, k2⟩ := u_known hts inX2 (hts (.instantiable RX2 4) (by decide +kernel))
  obtain ⟨c3, i3, k3⟩ := u_known hts inX3 (hts (.instantiable RX3 5) (by decide +kernel))
  obtain ⟨c4, i4, k4⟩ := u_known hts inX4 (hts (.instantiable RX4 4) (by decide +kernel))
  obtain ⟨c5, i5, k5⟩ := u_known hts inX5 (hts (.instantiable RX5 7) (by decide +kernel))
  obtain ⟨c6, i6, k6⟩ := u_known hts inX6 (hts (.instantiable RX6 4) (by decide +kernel))
  obtain ⟨c7, i7, k7⟩ := u_known hts inX7 (hts (.instantiable RX7 6) (by decide +kernel))
  obtain ⟨c8, i8, k8⟩ := u_known hts inX8 (hts (.instantiable RX8 30) (by decide +kernel))
  obtain ⟨a0, q0, p0, u0, v0, x0⟩ := Cond.arrayClass_spec (hts (.arrayClass .char) (by decide +kernel))
  obtain ⟨a1, q1, p1, u1, v1, x1⟩ := Cond.arrayClass_spec (hts (.arrayClass .int) (by decide +kernel))
  obtain ⟨a2, q2, p2, u2, v2, x2⟩ := Cond.arrayClass_spec (hts (.arrayClass .long) (by decide +kernel))
  obtain ⟨p3, a3, q3, h3, -, v3, x3, u3⟩ := Cond.arrayOver_spec (hts (.arrayOver (.object RX2)) (by decide +kernel))
  obtain ⟨p4, a4, q4, h4, -, v4, x4, u4⟩ := Cond.arrayOver_spec (hts (.arrayOver (.object RX4)) (by decide +kernel))
  obtain ⟨p5, a5, q5, h5, -, v5, x5, u5⟩ := Cond.arrayOver_spec (hts (.arrayOver (.object RX5)) (by decide +kernel))
  refine ⟨(fun c => match c with | 0 => c0 | 1 => c1 | 2 => c2 | 3 => c3 | 4 => c4 | 5 => c5 | 6 => c6 | 7 => c7 | _ => c8, fun c => match c with | 0 => i0 | 1 => i1 | 2 => i2 | 3 => i3 | 4 => i4 | 5 => i5 | 6 => i6 | 7 => i7 | _ => i8), fun c => match c with | 0 => a0 | 1 => a1 | 2 => a2 | 3 => a3 | 4 => a4 | _ => a5, fun c q hq => ?_, fun k q hq => ?_⟩
  · match c, hq with
    | 0, hq => cases hq; exact k0
    | 1, hq => cases hq; exact k1
    | 2, hq => cases hq; exact k2
    | 3, hq => cases hq; exact k3
    | 4, hq => cases hq; exact k4
    | 5, hq => cases hq; exact k5
    | 6, hq => cases hq; exact k6
    | 7, hq => cases hq; exact k7
    | 8, hq => cases hq; exact k8
    | n + 9, hq => cases hq
  · match k, hq with
    | 0, hq => cases hq; exact ⟨fun n z => ⟨fun k h => (by cases h), q0, v0, p0, x0⟩, u0⟩
    | 1, hq => cases hq; exact ⟨fun n z => ⟨fun k h => (by cases h), q1, v1, p1, x1⟩, u1⟩
    | 2, hq => cases hq; exact ⟨fun n z => ⟨fun k h => (by cases h), q2, v2, p2, x2⟩, u2⟩
    | 3, hq => cases hq; exact ⟨fun n z => ⟨fun k h => (by cases h), q3, v3, p3, x3⟩, q3, p3, v3, x3, h3, u3⟩
    | 4, hq => cases hq; exact ⟨fun n z => ⟨fun k h => (by cases h), q4, v4, p4, x4⟩, q4, p4, v4, x4, h4, u4⟩
    | 5, hq => cases hq; exact ⟨fun n z => ⟨fun k h => (by cases h), q5, v5, p5, x5⟩, q5, p5, v5, x5, h5, u5⟩
    | n + 6, hq => cases hq
theorem st_X {s : State} {args : Array Value} (hts : ∀ w ∈ lw_tbl, w.before args s = true) : bX s := ⟨⟨va_AO.of (hts (.arrayOver (.object RX4)) (by decide +kernel)), va_AO.of (hts (.arrayOver (.object RX5)) (by decide +kernel)), va_AO.of (hts (.arrayOver (.object RX2)) (by decide +kernel))⟩, va_Nw.of rfl (hts (.methodLinkNest RX1 31 yX4_init RX7) (by decide +kernel)), va_Nw.of rfl (hts (.methodLinkNest RX6 20 yX5_init RX7) (by decide +kernel)), va_Nw.of rfl (hts (.methodLinkNest RX7 21 yX3_init RX7) (by decide +kernel)), va_Nw.of rfl (hts (.methodLinkNest RX3 24 yX5_init RX7) (by decide +kernel)), va_Nw.of rfl (hts (.methodLinkNest RX0 20 yX5_init RX7) (by decide +kernel)), va_Nw.of rfl (hts (.methodLinkNest RX7 39 yX2_init RX7) (by decide +kernel))⟩
theorem st_T {s : State} {args : Array Value} (hts : ∀ w ∈ lw_tbl, w.before args s = true) (hgv : (Jvm.Cond.and given_1 narrow_1).before args s = true) : ∃ a b : Nat, ∀ (D : va_G) (cA : Nat → ClassId), zSt (zw D cA s.heap.size a b) (bA s.heap.size) s s.heap := by
  have hs := flat_of_before _ hgv
  have hA : ∀ a : Nat, a < s.heap.size → ¬ bA s.heap.size a := fun a h q => Nat.not_le.mpr h q
  have e1 := hs (.exactly (.string "GladRoad$Tape" 77) "java/lang/String") (by decide +kernel)
  have e2 := hs (.eq (.field (.string "GladRoad$Tape" 77) "java/lang/String" "coder" "B") (.int 0)) (by decide +kernel)
  have e3 := hs (.arrayOf (.field (.string "GladRoad$Tape" 77) "java/lang/String" "value" "[B") .byte) (by decide +kernel)
  have e4 := hs (.eq (.length (.field (.string "GladRoad$Tape" 77) "java/lang/String" "value" "[B")) (.int 4)) (by decide +kernel)
  have x0 := hs (.eq (.elem (.field (.string "GladRoad$Tape" 77) "java/lang/String" "value" "[B") (.int 0)) (.int 112)) (by decide +kernel)
  have x1 := hs (.eq (.elem (.field (.string "GladRoad$Tape" 77) "java/lang/String" "value" "[B") (.int 1)) (.int 98)) (by decide +kernel)
  have x2 := hs (.eq (.elem (.field (.string "GladRoad$Tape" 77) "java/lang/String" "value" "[B") (.int 2)) (.int 117)) (by decide +kernel)
  have x3 := hs (.eq (.elem (.field (.string "GladRoad$Tape" 77) "java/lang/String" "value" "[B") (.int 3)) (.int 109)) (by decide +kernel)
  have g1 : ∀ i : Nat, i < 1 → (Cond.eq (.length (.field ((fun _ : Nat => Term.string "GladRoad$Tape" 77) i) "java/lang/String" "value" "[B")) (.int (Int32.ofNat (([4] : List Nat).getD i 0)))).before args s = true := by
    intro i hi
    obtain rfl : i = 0 := by omega
    exact e4
  have g2 : ∀ i : Nat, i < 1 → ∀ j : Nat, j < ([4] : List Nat).getD i 0 → (Cond.eq (.elem (.field ((fun _ : Nat => Term.string "GladRoad$Tape" 77) i) "java/lang/String" "value" "[B") (.int (Int32.ofNat j))) (.int ((([[112, 98, 117, 109]] : List (List Int32)).getD i []).getD j 0))).before args s = true := by
    intro i hi j hj
    obtain rfl : i = 0 := by omega
    have hj : j < 4 := hj
    match j, hj with
    | 0, _ => exact x0
    | 1, _ => exact x1
    | 2, _ => exact x2
    | 3, _ => exact x3
    | n + 4, h => omega
  have g3 : ∀ i : Nat, i < 1 → ([4] : List Nat).getD i 0 < 2 ^ 31 := by decide
  obtain ⟨adK, adV, h1, h2⟩ := vk_Sof (args := args) (s := s) (N := 1) (tm := fun _ => .string "GladRoad$Tape" 77) (len := [4]) (byt := [[112, 98, 117, 109]]) (A := bA s.heap.size) g3 (fun _ _ => e1) (fun _ _ => e2) (fun _ _ => e3) g1 g2 (fun i j hi hj hne => absurd (by omega) hne) hA
  refine ⟨adK 0, adV 0, fun D cA => ⟨vk_R.of (hts (.stringRef "GladRoad$Tape" 77 "pbum") (by decide +kernel)) (h2 0 (by decide)), ⟨fun i hi => ?_, fun i j hi hj _ => by omega⟩, va_Zof (hts (.laysStatic "java/lang/String" "COMPACT_STRINGS" "Z") (by decide +kernel)) (hts (.initialized "java/lang/String") (by decide +kernel)) (va_eqt (hs (.eq (.static "java/lang/String" "COMPACT_STRINGS" "Z") (.int 1)) (by decide +kernel))) hA⟩⟩
  obtain rfl : i = 0 := by omega
  exact h1.1 0 (by decide)
theorem zSt_use2 {w : zE} {A : Nat → Prop} {s U : State} {H : Heap} {locs : List Loc} (h : zSt w A s s.heap) (hS : va_S A s.heap H locs) (hW : s.WarmedH U.vm) (hU : U.heap = H) : zSt w A U U.heap := by
  subst hU
  exact ⟨vk_R.warm hW h.1, (h.2.1.kept hS.2.1).moved hW.alike, (h.2.2.kept hS.2.1).moved hW.alike⟩
theorem p8_blind {D : va_G} {cA : Nat → ClassId} {sz a b : Nat} {f : Nat → va_E} : FrameBlind (p8 D cA sz a b f) := fun ar U g mk q => by
  obtain ⟨q0, q1, q2, q3, q4, q5, q6, q7⟩ := q
  have hv : U.vm.Alike (U.calling g mk ar).vm := Vm.Alike.refl U.vm
  exact ⟨q0, q1, q2, va_K.moved hv q3, q4.same rfl, q5.same rfl, q6.moved hv, q7.moved hv⟩
/-- the call of the reference's constructor: behind it stands the whole memory -/
theorem b_call8 {D : va_G} {cA : Nat → ClassId} {sz a b : Nat} {f : Nat → va_E} {g : zG} {own : String} {cc : ByteArray} {nL Dp pc idx sl : Nat} {lv : List (Option Value)} {rest : List Value} (F : bF (zw D cA sz a b) sz 0 g own cc nL Dp) (hT : zSt (zw D cA sz a b) (bA sz) g.2.1.1 g.2.1.1.heap) (hl : Cond.methodLink own idx yX8_init ∈ zTb) (hcat : (rest.map fun v => v.category).sum ≤ 8) (hd : decode cc pc = .ok (.invokespecial idx, 3)) (hD : 3 ≤ Dp) (h1 : 139 + 15 ≤ g.1.2.2.2.cells) (h2 : sl + 671 ≤ g.1.2.2.2.slots) (k : ∀ (H1 : Heap) (locs1 : List Loc) (ls : Array Slot), lv_has ls nL (zL 0 lv) → zP (zw D cA sz a b) M1 H1 → va_S (bA sz) g.2.1.1.heap H1 locs1 → W g.1.1 g.1.2.1 g.1.2.2.1 g.1.2.2.2 g.2.1.1 g.2.1.2.1 g.2.1.2.2.1 g.2.1.2.2.2 g.2.2.1.1 g.2.2.1.2.1 H1 locs1 (139 + 15) (sl + 671) g.2.2.2.2 (F0 g.2.1.2.1 (pc + 3) ls rest)) : BW (zw D cA sz a b) sz 0 g nL pc lv (.ref (sz + 138) :: rest) (va_up (tX7 (zw D cA sz a b) sz 0 f) 138 (.inr (8, d8L))) 139 sl := fun H locs ls hl1 hP hS => b_size fun hz => by
  have f1 := F.2.2.2.2.2.2.2.2.1
  have f2 := F.2.2.2.2.2.2.2.2.2.1
  have hzz := b_cells F hP hS.1 hz
  have hm := zm_X8_init
  exact va_callv (va_runI (As := []) (rest := rest) ⟨F.1, F.2.1, F.2.2.1, F.2.2.2.1, F.2.2.2.2.1⟩ (c_X8_init (l := g.1.2.1) (D := D) (cA := cA) (sz := sz) (a := a) (b := b) (f := f)) (cwI 0 F.2.2.2.2.1 (zGood hm) rfl rfl rfl (F.2.2.2.2.1 _ hm.2.2.1) (F.2.2.2.2.1 _ hl) (F.2.2.2.2.1 _ bm_X8) rfl hm.2.2.2.1 ⟨by show 2 + 1 ≤ _; omega, by show 8 + (2 + 11) + 60 * 2 ≤ _; omega⟩) ⟨p8_blind, fun U hU hW => ⟨rfl, by rw [hU]; exact hzz, by rw [hU]; exact hP, va_K.moved hW.alike F.2.2.2.2.2.2.1, bX.warm hW F.2.2.2.2.2.2.2.2.2.2, zSt_use2 hT hS hW hU⟩⟩ rfl rfl hl1.1 rfl (lv_room hcat) hd ⟨h1, h2⟩) hS (fun q _ h => h) (fun q h => h) (fun u t H1 locs1 ht hvm hw hB hz1 hk1 hS1 => k H1 locs1 ls hl1 (by have hB : zP (zw D cA sz a b) u t.heap := hB; rw [show u = M1 from hw, ht] at hB; exact hB) hS1)
end
section
theorem z_scr {w : zE} {g : zG} {own : String} {cc : ByteArray} {nL D pc : Nat} {lv : List (Option Value)} {st : List Value} {M : zM} {b L : Nat} {xs : Nat → Int32} {i : Int32} (F : zF w g own cc nL D) (hX : va_X b L xs g.2.1.1 g.2.1.1.heap) (hbl : b < g.2.1.1.heap.size) (hbA : ¬ g.2.2.2.1 b) (hin : vp_in i L) (hd : decode cc pc = .ok (.iaload, 1)) (k : ZW w g nL (pc + 1) lv (.int (xs i.toNatClampNeg) :: st) M) : ZW w g nL pc lv (.int i :: .ref b :: st) M := fun H locs ls hl hP hS => va_sld F.1 F.2.1 hX hbl hbA hS hin hd (k H locs ls hl hP hS)
theorem z_scl {w : zE} {g : zG} {own : String} {cc : ByteArray} {nL D pc : Nat} {lv : List (Option Value)} {st : List Value} {M : zM} {b L : Nat} {xs : Nat → Int32} (F : zF w g own cc nL D) (hX : va_X b L xs g.2.1.1 g.2.1.1.heap) (hbl : b < g.2.1.1.heap.size) (hbA : ¬ g.2.2.2.1 b) (hd : decode cc pc = .ok (.arraylength, 1)) (k : ZW w g nL (pc + 1) lv (.int (nI L) :: st) M) : ZW w g nL pc lv (.ref b :: st) M := fun H locs ls hl hP hS => va_slen F.1 F.2.1 hX hbl hbA hS hd (k H locs ls hl hP hS)
theorem l_in6 {i L c : Nat} {x : Int32} (hx : x = nI c) (hc : c < 6) (hi : i + 6 ≤ L) (hL : L ≤ 3072) : vp_in (nI i + x) L := by
  rw [hx, nI_add]
  exact vp_in_nI (by omega) (by omega)
theorem lc_thing {w : zE} {g : zG} {b L i : Nat} {xs : Nat → Int32} {M : zM} (F : zF w g RL cL_law 4 1000) (J : zJ w) (hX : va_X b L xs g.2.1.1 g.2.1.1.heap) (hbl : b < g.2.1.1.heap.size) (hbA : ¬ g.2.2.2.1 b) (hi : i + 6 ≤ L) (hL : L ≤ 3072) (S : Sim M) (K : ∀ M, Sim M → ZW w g 4 1236 [some (.ref b), some (.ref (w.2.2 0)), some (.ref (w.2.2 138)), some (.int (nI i))] [] M) : ZW w g 4 184 [some (.ref b), some (.ref (w.2.2 0)), some (.ref (w.2.2 138)), some (.int (nI i))] [] M := by
  refine z_aload_n F dL_law_184 rfl ?_
  refine z_aload_n F dL_law_185 rfl ?_
  refine z_iload_n F dL_law_186 rfl ?_
  refine z_iconst (v := 1) F dL_law_187 (by decide) ?_
  refine z_iadd F dL_law_188 ?_
  refine z_scr F hX hbl hbA (l_in6 (c := 1) rfl (by decide) hi hL) dL_law_189 ?_
  refine z_aload_n F dL_law_190 rfl ?_
  refine z_iload_n F dL_law_191 rfl ?_
  refine z_iconst (v := 2) F dL_law_192 (by decide) ?_
  refine z_iadd F dL_law_193 ?_
  refine z_scr F hX hbl hbA (l_in6 (c := 2) rfl (by decide) hi hL) dL_law_194 ?_
  refine z_aload_n F dL_law_195 rfl ?_
  refine z_iload_n F dL_law_196 rfl ?_
  refine z_iconst (v := 3) F dL_law_197 (by decide) ?_
  refine z_iadd F dL_law_198 ?_
  refine z_scr F hX hbl hbA (l_in6 (c := 3) rfl (by decide) hi hL) dL_law_199 ?_
  refine z_aload_n F dL_law_200 rfl ?_
  refine z_iload_n F dL_law_201 rfl ?_
  refine z_iconst (v := 4) F dL_law_202 (by decide) ?_
  refine z_iadd F dL_law_203 ?_
  refine z_scr F hX hbl hbA (l_in6 (c := 4) rfl (by decide) hi hL) dL_law_204 ?_
  refine z_callVi F (q7_thing J S) zm_X7_thing zv_X7_thing ml_L_13 (show zk 0 = 7 by decide) (by decide) rfl rfl rfl (Nat.le_of_ble_eq_true rfl) dL_law_205 (by omega) (fun r1 M2 h1 => ?_)
  refine z_pop F dL_law_208 rfl ?_
  refine z_aload_n F dL_law_209 rfl ?_
  refine z_aload_n F dL_law_210 rfl ?_
  refine z_iload_n F dL_law_211 rfl ?_
  refine z_iconst (v := 1) F dL_law_212 (by decide) ?_
  refine z_iadd F dL_law_213 ?_
  refine z_scr F hX hbl hbA (l_in6 (c := 1) rfl (by decide) hi hL) dL_law_214 ?_
  refine z_aload_n F dL_law_215 rfl ?_
  refine z_iload_n F dL_law_216 rfl ?_
  refine z_iconst (v := 2) F dL_law_217 (by decide) ?_
  refine z_iadd F dL_law_218 ?_
  refine z_scr F hX hbl hbA (l_in6 (c := 2) rfl (by decide) hi hL) dL_law_219 ?_
  refine z_aload_n F dL_law_220 rfl ?_
  refine z_iload_n F dL_law_221 rfl ?_
  refine z_iconst (v := 3) F dL_law_222 (by decide) ?_
  refine z_iadd F dL_law_223 ?_
  refine z_scr F hX hbl hbA (l_in6 (c := 3) rfl (by decide) hi hL) dL_law_224 ?_
  refine z_aload_n F dL_law_225 rfl ?_
  refine z_iload_n F dL_law_226 rfl ?_
  refine z_iconst (v := 4) F dL_law_227 (by decide) ?_
  refine z_iadd F dL_law_228 ?_
  refine z_scr F hX hbl hbA (l_in6 (c := 4) rfl (by decide) hi hL) dL_law_229 ?_
  refine z_callVi F (q8_thing J h1) zm_X8_thing zv_X8_thing ml_L_17 (show zk 138 = 8 by decide) (by decide) rfl rfl rfl (Nat.le_of_ble_eq_true rfl) dL_law_230 (by omega) (fun r2 M3 h2 => ?_)
  obtain ⟨S3, e⟩ := h2
  refine z_pop F dL_law_233 rfl ?_
  exact z_goto (tgt := 1236) F dL_law_234 (by decide) (K _ S3)
theorem lc_of {w : zE} {g : zG} {b L i : Nat} {xs : Nat → Int32} {M : zM} (F : zF w g RL cL_law 4 1000) (J : zJ w) (hX : va_X b L xs g.2.1.1 g.2.1.1.heap) (hbl : b < g.2.1.1.heap.size) (hbA : ¬ g.2.2.2.1 b) (hi : i + 6 ≤ L) (hL : L ≤ 3072) (S : Sim M) (K : ∀ M, Sim M → ZW w g 4 1236 [some (.ref b), some (.ref (w.2.2 0)), some (.ref (w.2.2 138)), some (.int (nI i))] [] M) : ZW w g 4 237 [some (.ref b), some (.ref (w.2.2 0)), some (.ref (w.2.2 138)), some (.int (nI i))] [] M := by
  refine z_aload_n F dL_law_237 rfl ?_
  refine z_aload_n F dL_law_238 rfl ?_
  refine z_iload_n F dL_law_239 rfl ?_
  refine z_iconst (v := 1) F dL_law_240 (by decide) ?_
  refine z_iadd F dL_law_241 ?_
  refine z_scr F hX hbl hbA (l_in6 (c := 1) rfl (by decide) hi hL) dL_law_242 ?_
  refine z_aload_n F dL_law_243 rfl ?_
  refine z_iload_n F dL_law_244 rfl ?_
  refine z_iconst (v := 2) F dL_law_245 (by decide) ?_
  refine z_iadd F dL_law_246 ?_
  refine z_scr F hX hbl hbA (l_in6 (c := 2) rfl (by decide) hi hL) dL_law_247 ?_
  refine z_callVi F (q7_of J S) zm_X7_of zv_X7_of ml_L_18 (show zk 0 = 7 by decide) (by decide) rfl rfl rfl (Nat.le_of_ble_eq_true rfl) dL_law_248 (by omega) (fun r1 M2 h1 => ?_)
  refine z_pop F dL_law_251 rfl ?_
  refine z_aload_n F dL_law_252 rfl ?_
  refine z_aload_n F dL_law_253 rfl ?_
  refine z_iload_n F dL_law_254 rfl ?_
  refine z_iconst (v := 1) F dL_law_255 (by decide) ?_
  refine z_iadd F dL_law_256 ?_
  refine z_scr F hX hbl hbA (l_in6 (c := 1) rfl (by decide) hi hL) dL_law_257 ?_
  refine z_aload_n F dL_law_258 rfl ?_
  refine z_iload_n F dL_law_259 rfl ?_
  refine z_iconst (v := 2) F dL_law_260 (by decide) ?_
  refine z_iadd F dL_law_261 ?_
  refine z_scr F hX hbl hbA (l_in6 (c := 2) rfl (by decide) hi hL) dL_law_262 ?_
  refine z_callVi F (q8_of J h1) zm_X8_of zv_X8_of ml_L_22 (show zk 138 = 8 by decide) (by decide) rfl rfl rfl (Nat.le_of_ble_eq_true rfl) dL_law_263 (by omega) (fun r2 M3 h2 => ?_)
  obtain ⟨S3, e⟩ := h2
  refine z_pop F dL_law_266 rfl ?_
  exact z_goto (tgt := 1236) F dL_law_267 (by decide) (K _ S3)
theorem lc_felt {w : zE} {g : zG} {b L i : Nat} {xs : Nat → Int32} {M : zM} (F : zF w g RL cL_law 4 1000) (J : zJ w) (hX : va_X b L xs g.2.1.1 g.2.1.1.heap) (hbl : b < g.2.1.1.heap.size) (hbA : ¬ g.2.2.2.1 b) (hi : i + 6 ≤ L) (hL : L ≤ 3072) (S : Sim M) (K : ∀ M, Sim M → ZW w g 4 1236 [some (.ref b), some (.ref (w.2.2 0)), some (.ref (w.2.2 138)), some (.int (nI i))] [] M) : ZW w g 4 270 [some (.ref b), some (.ref (w.2.2 0)), some (.ref (w.2.2 138)), some (.int (nI i))] [] M := by
  refine z_aload_n F dL_law_270 rfl ?_
  refine z_aload_n F dL_law_271 rfl ?_
  refine z_iload_n F dL_law_272 rfl ?_
  refine z_iconst (v := 1) F dL_law_273 (by decide) ?_
  refine z_iadd F dL_law_274 ?_
  refine z_scr F hX hbl hbA (l_in6 (c := 1) rfl (by decide) hi hL) dL_law_275 ?_
  refine z_aload_n F dL_law_276 rfl ?_
  refine z_iload_n F dL_law_277 rfl ?_
  refine z_iconst (v := 2) F dL_law_278 (by decide) ?_
  refine z_iadd F dL_law_279 ?_
  refine z_scr F hX hbl hbA (l_in6 (c := 2) rfl (by decide) hi hL) dL_law_280 ?_
  refine z_aload_n F dL_law_281 rfl ?_
  refine z_iload_n F dL_law_282 rfl ?_
  refine z_iconst (v := 3) F dL_law_283 (by decide) ?_
  refine z_iadd F dL_law_284 ?_
  refine z_scr F hX hbl hbA (l_in6 (c := 3) rfl (by decide) hi hL) dL_law_285 ?_
  refine z_callVi F (q7_felt J S) zm_X7_felt zv_X7_felt ml_L_23 (show zk 0 = 7 by decide) (by decide) rfl rfl rfl (Nat.le_of_ble_eq_true rfl) dL_law_286 (by omega) (fun r1 M2 h1 => ?_)
  refine z_pop F dL_law_289 rfl ?_
  refine z_aload_n F dL_law_290 rfl ?_
  refine z_aload_n F dL_law_291 rfl ?_
  refine z_iload_n F dL_law_292 rfl ?_
  refine z_iconst (v := 1) F dL_law_293 (by decide) ?_
  refine z_iadd F dL_law_294 ?_
  refine z_scr F hX hbl hbA (l_in6 (c := 1) rfl (by decide) hi hL) dL_law_295 ?_
  refine z_aload_n F dL_law_296 rfl ?_
  refine z_iload_n F dL_law_297 rfl ?_
  refine z_iconst (v := 2) F dL_law_298 (by decide) ?_
  refine z_iadd F dL_law_299 ?_
  refine z_scr F hX hbl hbA (l_in6 (c := 2) rfl (by decide) hi hL) dL_law_300 ?_
  refine z_aload_n F dL_law_301 rfl ?_
  refine z_iload_n F dL_law_302 rfl ?_
  refine z_iconst (v := 3) F dL_law_303 (by decide) ?_
  refine z_iadd F dL_law_304 ?_
  refine z_scr F hX hbl hbA (l_in6 (c := 3) rfl (by decide) hi hL) dL_law_305 ?_
  refine z_callVi F (q8_felt J h1) zm_X8_felt zv_X8_felt ml_L_27 (show zk 138 = 8 by decide) (by decide) rfl rfl rfl (Nat.le_of_ble_eq_true rfl) dL_law_306 (by omega) (fun r2 M3 h2 => ?_)
  obtain ⟨S3, e⟩ := h2
  refine z_pop F dL_law_309 rfl ?_
  exact z_goto (tgt := 1236) F dL_law_310 (by decide) (K _ S3)
theorem lc_person {w : zE} {g : zG} {b L i : Nat} {xs : Nat → Int32} {M : zM} (F : zF w g RL cL_law 4 1000) (J : zJ w) (hX : va_X b L xs g.2.1.1 g.2.1.1.heap) (hbl : b < g.2.1.1.heap.size) (hbA : ¬ g.2.2.2.1 b) (hi : i + 6 ≤ L) (hL : L ≤ 3072) (S : Sim M) (K : ∀ M, Sim M → ZW w g 4 1236 [some (.ref b), some (.ref (w.2.2 0)), some (.ref (w.2.2 138)), some (.int (nI i))] [] M) : ZW w g 4 313 [some (.ref b), some (.ref (w.2.2 0)), some (.ref (w.2.2 138)), some (.int (nI i))] [] M := by
  refine z_aload_n F dL_law_313 rfl ?_
  refine z_aload_n F dL_law_314 rfl ?_
  refine z_iload_n F dL_law_315 rfl ?_
  refine z_iconst (v := 1) F dL_law_316 (by decide) ?_
  refine z_iadd F dL_law_317 ?_
  refine z_scr F hX hbl hbA (l_in6 (c := 1) rfl (by decide) hi hL) dL_law_318 ?_
  refine z_aload_n F dL_law_319 rfl ?_
  refine z_iload_n F dL_law_320 rfl ?_
  refine z_iconst (v := 2) F dL_law_321 (by decide) ?_
  refine z_iadd F dL_law_322 ?_
  refine z_scr F hX hbl hbA (l_in6 (c := 2) rfl (by decide) hi hL) dL_law_323 ?_
  refine z_aload_n F dL_law_324 rfl ?_
  refine z_iload_n F dL_law_325 rfl ?_
  refine z_iconst (v := 3) F dL_law_326 (by decide) ?_
  refine z_iadd F dL_law_327 ?_
  refine z_scr F hX hbl hbA (l_in6 (c := 3) rfl (by decide) hi hL) dL_law_328 ?_
  refine z_callVi F (q7_person J S) zm_X7_person zv_X7_person ml_L_28 (show zk 0 = 7 by decide) (by decide) rfl rfl rfl (Nat.le_of_ble_eq_true rfl) dL_law_329 (by omega) (fun r1 M2 h1 => ?_)
  refine z_pop F dL_law_332 rfl ?_
  refine z_aload_n F dL_law_333 rfl ?_
  refine z_aload_n F dL_law_334 rfl ?_
  refine z_iload_n F dL_law_335 rfl ?_
  refine z_iconst (v := 1) F dL_law_336 (by decide) ?_
  refine z_iadd F dL_law_337 ?_
  refine z_scr F hX hbl hbA (l_in6 (c := 1) rfl (by decide) hi hL) dL_law_338 ?_
  refine z_aload_n F dL_law_339 rfl ?_
  refine z_iload_n F dL_law_340 rfl ?_
  refine z_iconst (v := 2) F dL_law_341 (by decide) ?_
  refine z_iadd F dL_law_342 ?_
  refine z_scr F hX hbl hbA (l_in6 (c := 2) rfl (by decide) hi hL) dL_law_343 ?_
  refine z_aload_n F dL_law_344 rfl ?_
  refine z_iload_n F dL_law_345 rfl ?_
  refine z_iconst (v := 3) F dL_law_346 (by decide) ?_
  refine z_iadd F dL_law_347 ?_
  refine z_scr F hX hbl hbA (l_in6 (c := 3) rfl (by decide) hi hL) dL_law_348 ?_
  refine z_callVi F (q8_person J h1) zm_X8_person zv_X8_person ml_L_31 (show zk 138 = 8 by decide) (by decide) rfl rfl rfl (Nat.le_of_ble_eq_true rfl) dL_law_349 (by omega) (fun r2 M3 h2 => ?_)
  obtain ⟨S3, e⟩ := h2
  refine z_pop F dL_law_352 rfl ?_
  exact z_goto (tgt := 1236) F dL_law_353 (by decide) (K _ S3)
theorem lc_told {w : zE} {g : zG} {b L i : Nat} {xs : Nat → Int32} {M : zM} (F : zF w g RL cL_law 4 1000) (J : zJ w) (hX : va_X b L xs g.2.1.1 g.2.1.1.heap) (hbl : b < g.2.1.1.heap.size) (hbA : ¬ g.2.2.2.1 b) (hi : i + 6 ≤ L) (hL : L ≤ 3072) (S : Sim M) (K : ∀ M, Sim M → ZW w g 4 1236 [some (.ref b), some (.ref (w.2.2 0)), some (.ref (w.2.2 138)), some (.int (nI i))] [] M) : ZW w g 4 356 [some (.ref b), some (.ref (w.2.2 0)), some (.ref (w.2.2 138)), some (.int (nI i))] [] M := by
  refine z_aload_n F dL_law_356 rfl ?_
  refine z_aload_n F dL_law_357 rfl ?_
  refine z_iload_n F dL_law_358 rfl ?_
  refine z_iconst (v := 1) F dL_law_359 (by decide) ?_
  refine z_iadd F dL_law_360 ?_
  refine z_scr F hX hbl hbA (l_in6 (c := 1) rfl (by decide) hi hL) dL_law_361 ?_
  refine z_aload_n F dL_law_362 rfl ?_
  refine z_iload_n F dL_law_363 rfl ?_
  refine z_iconst (v := 2) F dL_law_364 (by decide) ?_
  refine z_iadd F dL_law_365 ?_
  refine z_scr F hX hbl hbA (l_in6 (c := 2) rfl (by decide) hi hL) dL_law_366 ?_
  refine z_callVi F (q7_told J S) zm_X7_told zv_X7_told ml_L_32 (show zk 0 = 7 by decide) (by decide) rfl rfl rfl (Nat.le_of_ble_eq_true rfl) dL_law_367 (by omega) (fun r1 M2 h1 => ?_)
  refine z_pop F dL_law_370 rfl ?_
  refine z_aload_n F dL_law_371 rfl ?_
  refine z_aload_n F dL_law_372 rfl ?_
  refine z_iload_n F dL_law_373 rfl ?_
  refine z_iconst (v := 1) F dL_law_374 (by decide) ?_
  refine z_iadd F dL_law_375 ?_
  refine z_scr F hX hbl hbA (l_in6 (c := 1) rfl (by decide) hi hL) dL_law_376 ?_
  refine z_aload_n F dL_law_377 rfl ?_
  refine z_iload_n F dL_law_378 rfl ?_
  refine z_iconst (v := 2) F dL_law_379 (by decide) ?_
  refine z_iadd F dL_law_380 ?_
  refine z_scr F hX hbl hbA (l_in6 (c := 2) rfl (by decide) hi hL) dL_law_381 ?_
  refine z_callVi F (q8_told J h1) zm_X8_told zv_X8_told ml_L_35 (show zk 138 = 8 by decide) (by decide) rfl rfl rfl (Nat.le_of_ble_eq_true rfl) dL_law_382 (by omega) (fun r2 M3 h2 => ?_)
  obtain ⟨S3, e⟩ := h2
  refine z_pop F dL_law_385 rfl ?_
  exact z_goto (tgt := 1236) F dL_law_386 (by decide) (K _ S3)
theorem lc_move {w : zE} {g : zG} {b L i : Nat} {xs : Nat → Int32} {M : zM} (F : zF w g RL cL_law 4 1000) (J : zJ w) (hX : va_X b L xs g.2.1.1 g.2.1.1.heap) (hbl : b < g.2.1.1.heap.size) (hbA : ¬ g.2.2.2.1 b) (hi : i + 6 ≤ L) (hL : L ≤ 3072) (S : Sim M) (K : ∀ M, Sim M → ZW w g 4 1236 [some (.ref b), some (.ref (w.2.2 0)), some (.ref (w.2.2 138)), some (.int (nI i))] [] M) : ZW w g 4 389 [some (.ref b), some (.ref (w.2.2 0)), some (.ref (w.2.2 138)), some (.int (nI i))] [] M := by
  refine z_aload_n F dL_law_389 rfl ?_
  refine z_aload_n F dL_law_390 rfl ?_
  refine z_iload_n F dL_law_391 rfl ?_
  refine z_iconst (v := 1) F dL_law_392 (by decide) ?_
  refine z_iadd F dL_law_393 ?_
  refine z_scr F hX hbl hbA (l_in6 (c := 1) rfl (by decide) hi hL) dL_law_394 ?_
  refine z_aload_n F dL_law_395 rfl ?_
  refine z_iload_n F dL_law_396 rfl ?_
  refine z_iconst (v := 2) F dL_law_397 (by decide) ?_
  refine z_iadd F dL_law_398 ?_
  refine z_scr F hX hbl hbA (l_in6 (c := 2) rfl (by decide) hi hL) dL_law_399 ?_
  refine z_callVi F (q7_move J S) zm_X7_move zv_X7_move ml_L_36 (show zk 0 = 7 by decide) (by decide) rfl rfl rfl (Nat.le_of_ble_eq_true rfl) dL_law_400 (by omega) (fun r1 M2 h1 => ?_)
  refine z_pop F dL_law_403 rfl ?_
  refine z_aload_n F dL_law_404 rfl ?_
  refine z_aload_n F dL_law_405 rfl ?_
  refine z_iload_n F dL_law_406 rfl ?_
  refine z_iconst (v := 1) F dL_law_407 (by decide) ?_
  refine z_iadd F dL_law_408 ?_
  refine z_scr F hX hbl hbA (l_in6 (c := 1) rfl (by decide) hi hL) dL_law_409 ?_
  refine z_aload_n F dL_law_410 rfl ?_
  refine z_iload_n F dL_law_411 rfl ?_
  refine z_iconst (v := 2) F dL_law_412 (by decide) ?_
  refine z_iadd F dL_law_413 ?_
  refine z_scr F hX hbl hbA (l_in6 (c := 2) rfl (by decide) hi hL) dL_law_414 ?_
  refine z_callVi F (q8_move J h1) zm_X8_move zv_X8_move ml_L_39 (show zk 138 = 8 by decide) (by decide) rfl rfl rfl (Nat.le_of_ble_eq_true rfl) dL_law_415 (by omega) (fun r2 M3 h2 => ?_)
  obtain ⟨S3, e⟩ := h2
  refine z_pop F dL_law_418 rfl ?_
  exact z_goto (tgt := 1236) F dL_law_419 (by decide) (K _ S3)
theorem lc_take {w : zE} {g : zG} {b L i : Nat} {xs : Nat → Int32} {M : zM} (F : zF w g RL cL_law 4 1000) (J : zJ w) (hX : va_X b L xs g.2.1.1 g.2.1.1.heap) (hbl : b < g.2.1.1.heap.size) (hbA : ¬ g.2.2.2.1 b) (hi : i + 6 ≤ L) (hL : L ≤ 3072) (S : Sim M) (K : ∀ M, Sim M → ZW w g 4 1236 [some (.ref b), some (.ref (w.2.2 0)), some (.ref (w.2.2 138)), some (.int (nI i))] [] M) : ZW w g 4 422 [some (.ref b), some (.ref (w.2.2 0)), some (.ref (w.2.2 138)), some (.int (nI i))] [] M := by
  refine z_aload_n F dL_law_422 rfl ?_
  refine z_aload_n F dL_law_423 rfl ?_
  refine z_iload_n F dL_law_424 rfl ?_
  refine z_iconst (v := 1) F dL_law_425 (by decide) ?_
  refine z_iadd F dL_law_426 ?_
  refine z_scr F hX hbl hbA (l_in6 (c := 1) rfl (by decide) hi hL) dL_law_427 ?_
  refine z_callVi F (q7_take J S) zm_X7_take zv_X7_take ml_L_40 (show zk 0 = 7 by decide) (by decide) rfl rfl rfl (Nat.le_of_ble_eq_true rfl) dL_law_428 (by omega) (fun r1 M2 h1 => ?_)
  refine z_pop F dL_law_431 rfl ?_
  refine z_aload_n F dL_law_432 rfl ?_
  refine z_aload_n F dL_law_433 rfl ?_
  refine z_iload_n F dL_law_434 rfl ?_
  refine z_iconst (v := 1) F dL_law_435 (by decide) ?_
  refine z_iadd F dL_law_436 ?_
  refine z_scr F hX hbl hbA (l_in6 (c := 1) rfl (by decide) hi hL) dL_law_437 ?_
  refine z_callVi F (q8_take J h1) zm_X8_take zv_X8_take ml_L_44 (show zk 138 = 8 by decide) (by decide) rfl rfl rfl (Nat.le_of_ble_eq_true rfl) dL_law_438 (by omega) (fun r2 M3 h2 => ?_)
  obtain ⟨S3, e⟩ := h2
  refine z_pop F dL_law_441 rfl ?_
  exact z_goto (tgt := 1236) F dL_law_442 (by decide) (K _ S3)
theorem lc_count {w : zE} {g : zG} {b L i : Nat} {xs : Nat → Int32} {M : zM} (F : zF w g RL cL_law 4 1000) (J : zJ w) (hX : va_X b L xs g.2.1.1 g.2.1.1.heap) (hbl : b < g.2.1.1.heap.size) (hbA : ¬ g.2.2.2.1 b) (hi : i + 6 ≤ L) (hL : L ≤ 3072) (S : Sim M) (K : ∀ M, Sim M → ZW w g 4 1236 [some (.ref b), some (.ref (w.2.2 0)), some (.ref (w.2.2 138)), some (.int (nI i))] [] M) : ZW w g 4 445 [some (.ref b), some (.ref (w.2.2 0)), some (.ref (w.2.2 138)), some (.int (nI i))] [] M := by
  refine z_aload_n F dL_law_445 rfl ?_
  refine z_aload_n F dL_law_446 rfl ?_
  refine z_iload_n F dL_law_447 rfl ?_
  refine z_iconst (v := 1) F dL_law_448 (by decide) ?_
  refine z_iadd F dL_law_449 ?_
  refine z_scr F hX hbl hbA (l_in6 (c := 1) rfl (by decide) hi hL) dL_law_450 ?_
  refine z_callVi F (q7_count J S) zm_X7_count zv_X7_count ml_L_45 (show zk 0 = 7 by decide) (by decide) rfl rfl rfl (Nat.le_of_ble_eq_true rfl) dL_law_451 (by omega) (fun r1 M2 h1 => ?_)
  refine z_pop F dL_law_454 rfl ?_
  refine z_aload_n F dL_law_455 rfl ?_
  refine z_aload_n F dL_law_456 rfl ?_
  refine z_iload_n F dL_law_457 rfl ?_
  refine z_iconst (v := 1) F dL_law_458 (by decide) ?_
  refine z_iadd F dL_law_459 ?_
  refine z_scr F hX hbl hbA (l_in6 (c := 1) rfl (by decide) hi hL) dL_law_460 ?_
  refine z_callVi F (q8_count J h1) zm_X8_count zv_X8_count ml_L_48 (show zk 138 = 8 by decide) (by decide) rfl rfl rfl (Nat.le_of_ble_eq_true rfl) dL_law_461 (by omega) (fun r2 M3 h2 => ?_)
  obtain ⟨S3, e⟩ := h2
  refine z_pop F dL_law_464 rfl ?_
  exact z_goto (tgt := 1236) F dL_law_465 (by decide) (K _ S3)
theorem lc_heed {w : zE} {g : zG} {b L i : Nat} {xs : Nat → Int32} {M : zM} (F : zF w g RL cL_law 4 1000) (J : zJ w) (hX : va_X b L xs g.2.1.1 g.2.1.1.heap) (hbl : b < g.2.1.1.heap.size) (hbA : ¬ g.2.2.2.1 b) (hi : i + 6 ≤ L) (hL : L ≤ 3072) (S : Sim M) (K : ∀ M, Sim M → ZW w g 4 1236 [some (.ref b), some (.ref (w.2.2 0)), some (.ref (w.2.2 138)), some (.int (nI i))] [] M) : ZW w g 4 468 [some (.ref b), some (.ref (w.2.2 0)), some (.ref (w.2.2 138)), some (.int (nI i))] [] M := by
  refine z_aload_n F dL_law_468 rfl ?_
  refine z_aload_n F dL_law_469 rfl ?_
  refine z_iload_n F dL_law_470 rfl ?_
  refine z_iconst (v := 1) F dL_law_471 (by decide) ?_
  refine z_iadd F dL_law_472 ?_
  refine z_scr F hX hbl hbA (l_in6 (c := 1) rfl (by decide) hi hL) dL_law_473 ?_
  refine z_callVi F (q7_heed J S) zm_X7_heed zv_X7_heed ml_L_49 (show zk 0 = 7 by decide) (by decide) rfl rfl rfl (Nat.le_of_ble_eq_true rfl) dL_law_474 (by omega) (fun r1 M2 h1 => ?_)
  refine z_pop F dL_law_477 rfl ?_
  refine z_aload_n F dL_law_478 rfl ?_
  refine z_aload_n F dL_law_479 rfl ?_
  refine z_iload_n F dL_law_480 rfl ?_
  refine z_iconst (v := 1) F dL_law_481 (by decide) ?_
  refine z_iadd F dL_law_482 ?_
  refine z_scr F hX hbl hbA (l_in6 (c := 1) rfl (by decide) hi hL) dL_law_483 ?_
  refine z_callVi F (q8_heed J h1) zm_X8_heed zv_X8_heed ml_L_52 (show zk 138 = 8 by decide) (by decide) rfl rfl rfl (Nat.le_of_ble_eq_true rfl) dL_law_484 (by omega) (fun r2 M3 h2 => ?_)
  obtain ⟨S3, e⟩ := h2
  refine z_pop F dL_law_487 rfl ?_
  exact z_goto (tgt := 1236) F dL_law_488 (by decide) (K _ S3)
theorem lc_well {w : zE} {g : zG} {b L i : Nat} {xs : Nat → Int32} {M : zM} (F : zF w g RL cL_law 4 1000) (J : zJ w) (hX : va_X b L xs g.2.1.1 g.2.1.1.heap) (hbl : b < g.2.1.1.heap.size) (hbA : ¬ g.2.2.2.1 b) (hi : i + 6 ≤ L) (hL : L ≤ 3072) (S : Sim M) (K : ∀ M, Sim M → ZW w g 4 1236 [some (.ref b), some (.ref (w.2.2 0)), some (.ref (w.2.2 138)), some (.int (nI i))] [] M) : ZW w g 4 491 [some (.ref b), some (.ref (w.2.2 0)), some (.ref (w.2.2 138)), some (.int (nI i))] [] M := by
  refine z_aload_n F dL_law_491 rfl ?_
  refine z_aload_n F dL_law_492 rfl ?_
  refine z_iload_n F dL_law_493 rfl ?_
  refine z_iconst (v := 1) F dL_law_494 (by decide) ?_
  refine z_iadd F dL_law_495 ?_
  refine z_scr F hX hbl hbA (l_in6 (c := 1) rfl (by decide) hi hL) dL_law_496 ?_
  refine z_callVi F (q7_well J S) zm_X7_well zv_X7_well ml_L_53 (show zk 0 = 7 by decide) (by decide) rfl rfl rfl (Nat.le_of_ble_eq_true rfl) dL_law_497 (by omega) (fun r1 M2 h1 => ?_)
  refine z_pop F dL_law_500 rfl ?_
  refine z_aload_n F dL_law_501 rfl ?_
  refine z_aload_n F dL_law_502 rfl ?_
  refine z_iload_n F dL_law_503 rfl ?_
  refine z_iconst (v := 1) F dL_law_504 (by decide) ?_
  refine z_iadd F dL_law_505 ?_
  refine z_scr F hX hbl hbA (l_in6 (c := 1) rfl (by decide) hi hL) dL_law_506 ?_
  refine z_callVi F (q8_well J h1) zm_X8_well zv_X8_well ml_L_56 (show zk 138 = 8 by decide) (by decide) rfl rfl rfl (Nat.le_of_ble_eq_true rfl) dL_law_507 (by omega) (fun r2 M3 h2 => ?_)
  obtain ⟨S3, e⟩ := h2
  refine z_pop F dL_law_510 rfl ?_
  exact z_goto (tgt := 1236) F dL_law_511 (by decide) (K _ S3)
theorem lc_type {w : zE} {g : zG} {b L i : Nat} {xs : Nat → Int32} {M : zM} (F : zF w g RL cL_law 4 1000) (J : zJ w) (hX : va_X b L xs g.2.1.1 g.2.1.1.heap) (hbl : b < g.2.1.1.heap.size) (hbA : ¬ g.2.2.2.1 b) (hi : i + 6 ≤ L) (hL : L ≤ 3072) (S : Sim M) (K : ∀ M, Sim M → ZW w g 4 1236 [some (.ref b), some (.ref (w.2.2 0)), some (.ref (w.2.2 138)), some (.int (nI i))] [] M) : ZW w g 4 514 [some (.ref b), some (.ref (w.2.2 0)), some (.ref (w.2.2 138)), some (.int (nI i))] [] M := by
  refine z_aload_n F dL_law_514 rfl ?_
  refine z_aload_n F dL_law_515 rfl ?_
  refine z_iload_n F dL_law_516 rfl ?_
  refine z_iconst (v := 1) F dL_law_517 (by decide) ?_
  refine z_iadd F dL_law_518 ?_
  refine z_scr F hX hbl hbA (l_in6 (c := 1) rfl (by decide) hi hL) dL_law_519 ?_
  refine z_callVi F (q7_type J S) zm_X7_type zv_X7_type ml_L_57 (show zk 0 = 7 by decide) (by decide) rfl rfl rfl (Nat.le_of_ble_eq_true rfl) dL_law_520 (by omega) (fun r1 M2 h1 => ?_)
  refine z_pop F dL_law_523 rfl ?_
  refine z_aload_n F dL_law_524 rfl ?_
  refine z_aload_n F dL_law_525 rfl ?_
  refine z_iload_n F dL_law_526 rfl ?_
  refine z_iconst (v := 1) F dL_law_527 (by decide) ?_
  refine z_iadd F dL_law_528 ?_
  refine z_scr F hX hbl hbA (l_in6 (c := 1) rfl (by decide) hi hL) dL_law_529 ?_
  refine z_callVi F (q8_type J h1) zm_X8_type zv_X8_type ml_L_60 (show zk 138 = 8 by decide) (by decide) rfl rfl rfl (Nat.le_of_ble_eq_true rfl) dL_law_530 (by omega) (fun r2 M3 h2 => ?_)
  obtain ⟨S3, e⟩ := h2
  refine z_pop F dL_law_533 rfl ?_
  exact z_goto (tgt := 1236) F dL_law_534 (by decide) (K _ S3)
theorem lc_road {w : zE} {g : zG} {b L i : Nat} {xs : Nat → Int32} {M : zM} (F : zF w g RL cL_law 4 1000) (J : zJ w) (hX : va_X b L xs g.2.1.1 g.2.1.1.heap) (hbl : b < g.2.1.1.heap.size) (hbA : ¬ g.2.2.2.1 b) (hi : i + 6 ≤ L) (hL : L ≤ 3072) (S : Sim M) (K : ∀ M, Sim M → ZW w g 4 1236 [some (.ref b), some (.ref (w.2.2 0)), some (.ref (w.2.2 138)), some (.int (nI i))] [] M) : ZW w g 4 537 [some (.ref b), some (.ref (w.2.2 0)), some (.ref (w.2.2 138)), some (.int (nI i))] [] M := by
  refine z_aload_n F dL_law_537 rfl ?_
  refine z_callVi F (q7_road J S) zm_X7_road zv_X7_road ml_L_61 (show zk 0 = 7 by decide) (by decide) rfl rfl rfl (Nat.le_of_ble_eq_true rfl) dL_law_538 (by omega) (fun r1 M2 h1 => ?_)
  refine z_pop F dL_law_541 rfl ?_
  refine z_aload_n F dL_law_542 rfl ?_
  refine z_callVi F (q8_road J h1) zm_X8_road zv_X8_road ml_L_65 (show zk 138 = 8 by decide) (by decide) rfl rfl rfl (Nat.le_of_ble_eq_true rfl) dL_law_543 (by omega) (fun r2 M3 h2 => ?_)
  obtain ⟨S3, e⟩ := h2
  refine z_pop F dL_law_546 rfl ?_
  exact z_goto (tgt := 1236) F dL_law_547 (by decide) (K _ S3)
theorem lc_go {w : zE} {g : zG} {b L i : Nat} {xs : Nat → Int32} {M : zM} (F : zF w g RL cL_law 4 1000) (J : zJ w) (hX : va_X b L xs g.2.1.1 g.2.1.1.heap) (hbl : b < g.2.1.1.heap.size) (hbA : ¬ g.2.2.2.1 b) (hi : i + 6 ≤ L) (hL : L ≤ 3072) (S : Sim M) (K : ∀ M, Sim M → ZW w g 4 1236 [some (.ref b), some (.ref (w.2.2 0)), some (.ref (w.2.2 138)), some (.int (nI i))] [] M) : ZW w g 4 550 [some (.ref b), some (.ref (w.2.2 0)), some (.ref (w.2.2 138)), some (.int (nI i))] [] M := by
  refine z_aload_n F dL_law_550 rfl ?_
  refine z_callVi F (q7_go J S) zm_X7_go zv_X7_go ml_L_66 (show zk 0 = 7 by decide) (by decide) rfl rfl rfl (Nat.le_of_ble_eq_true rfl) dL_law_551 (by omega) (fun r1 M2 h1 => ?_)
  refine z_pop F dL_law_554 rfl ?_
  refine z_aload_n F dL_law_555 rfl ?_
  refine z_callVi F (q8_go J h1) zm_X8_go zv_X8_go ml_L_69 (show zk 138 = 8 by decide) (by decide) rfl rfl rfl (Nat.le_of_ble_eq_true rfl) dL_law_556 (by omega) (fun r2 M3 h2 => ?_)
  obtain ⟨S3, e⟩ := h2
  refine z_pop F dL_law_559 rfl ?_
  exact z_goto (tgt := 1236) F dL_law_560 (by decide) (K _ S3)
theorem lc_undo {w : zE} {g : zG} {b L i : Nat} {xs : Nat → Int32} {M : zM} (F : zF w g RL cL_law 4 1000) (J : zJ w) (hX : va_X b L xs g.2.1.1 g.2.1.1.heap) (hbl : b < g.2.1.1.heap.size) (hbA : ¬ g.2.2.2.1 b) (hi : i + 6 ≤ L) (hL : L ≤ 3072) (S : Sim M) (K : ∀ M, Sim M → ZW w g 4 1236 [some (.ref b), some (.ref (w.2.2 0)), some (.ref (w.2.2 138)), some (.int (nI i))] [] M) : ZW w g 4 563 [some (.ref b), some (.ref (w.2.2 0)), some (.ref (w.2.2 138)), some (.int (nI i))] [] M := by
  refine z_aload_n F dL_law_563 rfl ?_
  refine z_callVi F (q7_undo J S) zm_X7_undo zv_X7_undo ml_L_70 (show zk 0 = 7 by decide) (by decide) rfl rfl rfl (Nat.le_of_ble_eq_true rfl) dL_law_564 (by omega) (fun r1 M2 h1 => ?_)
  refine z_pop F dL_law_567 rfl ?_
  refine z_aload_n F dL_law_568 rfl ?_
  refine z_callVi F (q8_undo J h1) zm_X8_undo zv_X8_undo ml_L_73 (show zk 138 = 8 by decide) (by decide) rfl rfl rfl (Nat.le_of_ble_eq_true rfl) dL_law_569 (by omega) (fun r2 M3 h2 => ?_)
  obtain ⟨S3, e⟩ := h2
  refine z_pop F dL_law_572 rfl ?_
  exact z_goto (tgt := 1236) F dL_law_573 (by decide) (K _ S3)
theorem lc_again {w : zE} {g : zG} {b L i : Nat} {xs : Nat → Int32} {M : zM} (F : zF w g RL cL_law 4 1000) (J : zJ w) (hX : va_X b L xs g.2.1.1 g.2.1.1.heap) (hbl : b < g.2.1.1.heap.size) (hbA : ¬ g.2.2.2.1 b) (hi : i + 6 ≤ L) (hL : L ≤ 3072) (S : Sim M) (K : ∀ M, Sim M → ZW w g 4 1236 [some (.ref b), some (.ref (w.2.2 0)), some (.ref (w.2.2 138)), some (.int (nI i))] [] M) : ZW w g 4 576 [some (.ref b), some (.ref (w.2.2 0)), some (.ref (w.2.2 138)), some (.int (nI i))] [] M := by
  refine z_aload_n F dL_law_576 rfl ?_
  refine z_callVi F (q7_again J S) zm_X7_again zv_X7_again ml_L_74 (show zk 0 = 7 by decide) (by decide) rfl rfl rfl (Nat.le_of_ble_eq_true rfl) dL_law_577 (by omega) (fun r1 M2 h1 => ?_)
  refine z_pop F dL_law_580 rfl ?_
  refine z_aload_n F dL_law_581 rfl ?_
  refine z_callVi F (q8_again J h1) zm_X8_again zv_X8_again ml_L_77 (show zk 138 = 8 by decide) (by decide) rfl rfl rfl (Nat.le_of_ble_eq_true rfl) dL_law_582 (by omega) (fun r2 M3 h2 => ?_)
  obtain ⟨S3, e⟩ := h2
  refine z_pop F dL_law_585 rfl ?_
  exact z_goto (tgt := 1236) F dL_law_586 (by decide) (K _ S3)
theorem lc_glad {w : zE} {g : zG} {b L i : Nat} {xs : Nat → Int32} {M : zM} (F : zF w g RL cL_law 4 1000) (J : zJ w) (hX : va_X b L xs g.2.1.1 g.2.1.1.heap) (hbl : b < g.2.1.1.heap.size) (hbA : ¬ g.2.2.2.1 b) (hi : i + 6 ≤ L) (hL : L ≤ 3072) (S : Sim M) (K : ∀ M, Sim M → ZW w g 4 1236 [some (.ref b), some (.ref (w.2.2 0)), some (.ref (w.2.2 138)), some (.int (nI i))] [] M) : ZW w g 4 589 [some (.ref b), some (.ref (w.2.2 0)), some (.ref (w.2.2 138)), some (.int (nI i))] [] M := by
  refine z_aload_n F dL_law_589 rfl ?_
  refine z_aload_n F dL_law_590 rfl ?_
  refine z_iload_n F dL_law_591 rfl ?_
  refine z_iconst (v := 1) F dL_law_592 (by decide) ?_
  refine z_iadd F dL_law_593 ?_
  refine z_scr F hX hbl hbA (l_in6 (c := 1) rfl (by decide) hi hL) dL_law_594 ?_
  refine z_callVi F (q7_glad J S) zm_X7_glad zv_X7_glad ml_L_78 (show zk 0 = 7 by decide) (by decide) rfl rfl rfl (Nat.le_of_ble_eq_true rfl) dL_law_595 (by omega) (fun r1 M2 h1 => ?_)
  refine z_pop F dL_law_598 rfl ?_
  refine z_aload_n F dL_law_599 rfl ?_
  refine z_aload_n F dL_law_600 rfl ?_
  refine z_iload_n F dL_law_601 rfl ?_
  refine z_iconst (v := 1) F dL_law_602 (by decide) ?_
  refine z_iadd F dL_law_603 ?_
  refine z_scr F hX hbl hbA (l_in6 (c := 1) rfl (by decide) hi hL) dL_law_604 ?_
  refine z_callVi F (q8_glad J h1) zm_X8_glad zv_X8_glad ml_L_81 (show zk 138 = 8 by decide) (by decide) rfl rfl rfl (Nat.le_of_ble_eq_true rfl) dL_law_605 (by omega) (fun r2 M3 h2 => ?_)
  obtain ⟨S3, e⟩ := h2
  refine z_pop F dL_law_608 rfl ?_
  exact z_goto (tgt := 1236) F dL_law_609 (by decide) (K _ S3)
theorem lc_home {w : zE} {g : zG} {b L i : Nat} {xs : Nat → Int32} {M : zM} (F : zF w g RL cL_law 4 1000) (J : zJ w) (hX : va_X b L xs g.2.1.1 g.2.1.1.heap) (hbl : b < g.2.1.1.heap.size) (hbA : ¬ g.2.2.2.1 b) (hi : i + 6 ≤ L) (hL : L ≤ 3072) (S : Sim M) (K : ∀ M, Sim M → ZW w g 4 1236 [some (.ref b), some (.ref (w.2.2 0)), some (.ref (w.2.2 138)), some (.int (nI i))] [] M) : ZW w g 4 612 [some (.ref b), some (.ref (w.2.2 0)), some (.ref (w.2.2 138)), some (.int (nI i))] [] M := by
  refine z_aload_n F dL_law_612 rfl ?_
  refine z_aload_n F dL_law_613 rfl ?_
  refine z_iload_n F dL_law_614 rfl ?_
  refine z_iconst (v := 1) F dL_law_615 (by decide) ?_
  refine z_iadd F dL_law_616 ?_
  refine z_scr F hX hbl hbA (l_in6 (c := 1) rfl (by decide) hi hL) dL_law_617 ?_
  refine z_callVi F (q7_home J S) zm_X7_home zv_X7_home ml_L_82 (show zk 0 = 7 by decide) (by decide) rfl rfl rfl (Nat.le_of_ble_eq_true rfl) dL_law_618 (by omega) (fun r1 M2 h1 => ?_)
  refine z_pop F dL_law_621 rfl ?_
  refine z_aload_n F dL_law_622 rfl ?_
  refine z_aload_n F dL_law_623 rfl ?_
  refine z_iload_n F dL_law_624 rfl ?_
  refine z_iconst (v := 1) F dL_law_625 (by decide) ?_
  refine z_iadd F dL_law_626 ?_
  refine z_scr F hX hbl hbA (l_in6 (c := 1) rfl (by decide) hi hL) dL_law_627 ?_
  refine z_callVi F (q8_home J h1) zm_X8_home zv_X8_home ml_L_85 (show zk 138 = 8 by decide) (by decide) rfl rfl rfl (Nat.le_of_ble_eq_true rfl) dL_law_628 (by omega) (fun r2 M3 h2 => ?_)
  obtain ⟨S3, e⟩ := h2
  refine z_pop F dL_law_631 rfl ?_
  exact z_goto (tgt := 1236) F dL_law_632 (by decide) (K _ S3)
theorem lc_lost {w : zE} {g : zG} {b L i : Nat} {xs : Nat → Int32} {M : zM} (F : zF w g RL cL_law 4 1000) (J : zJ w) (hX : va_X b L xs g.2.1.1 g.2.1.1.heap) (hbl : b < g.2.1.1.heap.size) (hbA : ¬ g.2.2.2.1 b) (hi : i + 6 ≤ L) (hL : L ≤ 3072) (S : Sim M) (K : ∀ M, Sim M → ZW w g 4 1236 [some (.ref b), some (.ref (w.2.2 0)), some (.ref (w.2.2 138)), some (.int (nI i))] [] M) : ZW w g 4 635 [some (.ref b), some (.ref (w.2.2 0)), some (.ref (w.2.2 138)), some (.int (nI i))] [] M := by
  refine z_aload_n F dL_law_635 rfl ?_
  refine z_callVi F (q7_lost J S) zm_X7_lost zv_X7_lost ml_L_86 (show zk 0 = 7 by decide) (by decide) rfl rfl rfl (Nat.le_of_ble_eq_true rfl) dL_law_636 (by omega) (fun r1 M2 h1 => ?_)
  refine z_pop F dL_law_639 rfl ?_
  refine z_aload_n F dL_law_640 rfl ?_
  refine z_callVi F (q8_lost J h1) zm_X8_lost zv_X8_lost ml_L_89 (show zk 138 = 8 by decide) (by decide) rfl rfl rfl (Nat.le_of_ble_eq_true rfl) dL_law_641 (by omega) (fun r2 M3 h2 => ?_)
  obtain ⟨S3, e⟩ := h2
  refine z_pop F dL_law_644 rfl ?_
  exact z_goto (tgt := 1236) F dL_law_645 (by decide) (K _ S3)
theorem lc_lurk {w : zE} {g : zG} {b L i : Nat} {xs : Nat → Int32} {M : zM} (F : zF w g RL cL_law 4 1000) (J : zJ w) (hX : va_X b L xs g.2.1.1 g.2.1.1.heap) (hbl : b < g.2.1.1.heap.size) (hbA : ¬ g.2.2.2.1 b) (hi : i + 6 ≤ L) (hL : L ≤ 3072) (S : Sim M) (K : ∀ M, Sim M → ZW w g 4 1236 [some (.ref b), some (.ref (w.2.2 0)), some (.ref (w.2.2 138)), some (.int (nI i))] [] M) : ZW w g 4 648 [some (.ref b), some (.ref (w.2.2 0)), some (.ref (w.2.2 138)), some (.int (nI i))] [] M := by
  refine z_aload_n F dL_law_648 rfl ?_
  refine z_aload_n F dL_law_649 rfl ?_
  refine z_iload_n F dL_law_650 rfl ?_
  refine z_iconst (v := 1) F dL_law_651 (by decide) ?_
  refine z_iadd F dL_law_652 ?_
  refine z_scr F hX hbl hbA (l_in6 (c := 1) rfl (by decide) hi hL) dL_law_653 ?_
  refine z_aload_n F dL_law_654 rfl ?_
  refine z_iload_n F dL_law_655 rfl ?_
  refine z_iconst (v := 2) F dL_law_656 (by decide) ?_
  refine z_iadd F dL_law_657 ?_
  refine z_scr F hX hbl hbA (l_in6 (c := 2) rfl (by decide) hi hL) dL_law_658 ?_
  refine z_callVi F (q7_lurk J S) zm_X7_lurk zv_X7_lurk ml_L_90 (show zk 0 = 7 by decide) (by decide) rfl rfl rfl (Nat.le_of_ble_eq_true rfl) dL_law_659 (by omega) (fun r1 M2 h1 => ?_)
  refine z_pop F dL_law_662 rfl ?_
  refine z_aload_n F dL_law_663 rfl ?_
  refine z_aload_n F dL_law_664 rfl ?_
  refine z_iload_n F dL_law_665 rfl ?_
  refine z_iconst (v := 1) F dL_law_666 (by decide) ?_
  refine z_iadd F dL_law_667 ?_
  refine z_scr F hX hbl hbA (l_in6 (c := 1) rfl (by decide) hi hL) dL_law_668 ?_
  refine z_aload_n F dL_law_669 rfl ?_
  refine z_iload_n F dL_law_670 rfl ?_
  refine z_iconst (v := 2) F dL_law_671 (by decide) ?_
  refine z_iadd F dL_law_672 ?_
  refine z_scr F hX hbl hbA (l_in6 (c := 2) rfl (by decide) hi hL) dL_law_673 ?_
  refine z_callVi F (q8_lurk J h1) zm_X8_lurk zv_X8_lurk ml_L_93 (show zk 138 = 8 by decide) (by decide) rfl rfl rfl (Nat.le_of_ble_eq_true rfl) dL_law_674 (by omega) (fun r2 M3 h2 => ?_)
  obtain ⟨S3, e⟩ := h2
  refine z_pop F dL_law_677 rfl ?_
  exact z_goto (tgt := 1236) F dL_law_678 (by decide) (K _ S3)
theorem lc_stand {w : zE} {g : zG} {b L i : Nat} {xs : Nat → Int32} {M : zM} (F : zF w g RL cL_law 4 1000) (J : zJ w) (hX : va_X b L xs g.2.1.1 g.2.1.1.heap) (hbl : b < g.2.1.1.heap.size) (hbA : ¬ g.2.2.2.1 b) (hi : i + 6 ≤ L) (hL : L ≤ 3072) (S : Sim M) (K : ∀ M, Sim M → ZW w g 4 1236 [some (.ref b), some (.ref (w.2.2 0)), some (.ref (w.2.2 138)), some (.int (nI i))] [] M) : ZW w g 4 681 [some (.ref b), some (.ref (w.2.2 0)), some (.ref (w.2.2 138)), some (.int (nI i))] [] M := by
  refine z_aload_n F dL_law_681 rfl ?_
  refine z_aload_n F dL_law_682 rfl ?_
  refine z_iload_n F dL_law_683 rfl ?_
  refine z_iconst (v := 1) F dL_law_684 (by decide) ?_
  refine z_iadd F dL_law_685 ?_
  refine z_scr F hX hbl hbA (l_in6 (c := 1) rfl (by decide) hi hL) dL_law_686 ?_
  refine z_aload_n F dL_law_687 rfl ?_
  refine z_iload_n F dL_law_688 rfl ?_
  refine z_iconst (v := 2) F dL_law_689 (by decide) ?_
  refine z_iadd F dL_law_690 ?_
  refine z_scr F hX hbl hbA (l_in6 (c := 2) rfl (by decide) hi hL) dL_law_691 ?_
  refine z_callVi F (q7_stand J S) zm_X7_stand zv_X7_stand ml_L_94 (show zk 0 = 7 by decide) (by decide) rfl rfl rfl (Nat.le_of_ble_eq_true rfl) dL_law_692 (by omega) (fun r1 M2 h1 => ?_)
  refine z_pop F dL_law_695 rfl ?_
  refine z_aload_n F dL_law_696 rfl ?_
  refine z_aload_n F dL_law_697 rfl ?_
  refine z_iload_n F dL_law_698 rfl ?_
  refine z_iconst (v := 1) F dL_law_699 (by decide) ?_
  refine z_iadd F dL_law_700 ?_
  refine z_scr F hX hbl hbA (l_in6 (c := 1) rfl (by decide) hi hL) dL_law_701 ?_
  refine z_aload_n F dL_law_702 rfl ?_
  refine z_iload_n F dL_law_703 rfl ?_
  refine z_iconst (v := 2) F dL_law_704 (by decide) ?_
  refine z_iadd F dL_law_705 ?_
  refine z_scr F hX hbl hbA (l_in6 (c := 2) rfl (by decide) hi hL) dL_law_706 ?_
  refine z_callVi F (q8_stand J h1) zm_X8_stand zv_X8_stand ml_L_97 (show zk 138 = 8 by decide) (by decide) rfl rfl rfl (Nat.le_of_ble_eq_true rfl) dL_law_707 (by omega) (fun r2 M3 h2 => ?_)
  obtain ⟨S3, e⟩ := h2
  refine z_pop F dL_law_710 rfl ?_
  exact z_goto (tgt := 1236) F dL_law_711 (by decide) (K _ S3)
theorem lc_sister {w : zE} {g : zG} {b L i : Nat} {xs : Nat → Int32} {M : zM} (F : zF w g RL cL_law 4 1000) (J : zJ w) (hX : va_X b L xs g.2.1.1 g.2.1.1.heap) (hbl : b < g.2.1.1.heap.size) (hbA : ¬ g.2.2.2.1 b) (hi : i + 6 ≤ L) (hL : L ≤ 3072) (S : Sim M) (K : ∀ M, Sim M → ZW w g 4 1236 [some (.ref b), some (.ref (w.2.2 0)), some (.ref (w.2.2 138)), some (.int (nI i))] [] M) : ZW w g 4 714 [some (.ref b), some (.ref (w.2.2 0)), some (.ref (w.2.2 138)), some (.int (nI i))] [] M := by
  refine z_aload_n F dL_law_714 rfl ?_
  refine z_aload_n F dL_law_715 rfl ?_
  refine z_iload_n F dL_law_716 rfl ?_
  refine z_iconst (v := 1) F dL_law_717 (by decide) ?_
  refine z_iadd F dL_law_718 ?_
  refine z_scr F hX hbl hbA (l_in6 (c := 1) rfl (by decide) hi hL) dL_law_719 ?_
  refine z_aload_n F dL_law_720 rfl ?_
  refine z_iload_n F dL_law_721 rfl ?_
  refine z_iconst (v := 2) F dL_law_722 (by decide) ?_
  refine z_iadd F dL_law_723 ?_
  refine z_scr F hX hbl hbA (l_in6 (c := 2) rfl (by decide) hi hL) dL_law_724 ?_
  refine z_callVi F (q7_sister J S) zm_X7_sister zv_X7_sister ml_L_98 (show zk 0 = 7 by decide) (by decide) rfl rfl rfl (Nat.le_of_ble_eq_true rfl) dL_law_725 (by omega) (fun r1 M2 h1 => ?_)
  refine z_pop F dL_law_728 rfl ?_
  refine z_aload_n F dL_law_729 rfl ?_
  refine z_aload_n F dL_law_730 rfl ?_
  refine z_iload_n F dL_law_731 rfl ?_
  refine z_iconst (v := 1) F dL_law_732 (by decide) ?_
  refine z_iadd F dL_law_733 ?_
  refine z_scr F hX hbl hbA (l_in6 (c := 1) rfl (by decide) hi hL) dL_law_734 ?_
  refine z_aload_n F dL_law_735 rfl ?_
  refine z_iload_n F dL_law_736 rfl ?_
  refine z_iconst (v := 2) F dL_law_737 (by decide) ?_
  refine z_iadd F dL_law_738 ?_
  refine z_scr F hX hbl hbA (l_in6 (c := 2) rfl (by decide) hi hL) dL_law_739 ?_
  refine z_callVi F (q8_sister J h1) zm_X8_sister zv_X8_sister ml_L_101 (show zk 138 = 8 by decide) (by decide) rfl rfl rfl (Nat.le_of_ble_eq_true rfl) dL_law_740 (by omega) (fun r2 M3 h2 => ?_)
  obtain ⟨S3, e⟩ := h2
  refine z_pop F dL_law_743 rfl ?_
  exact z_goto (tgt := 1236) F dL_law_744 (by decide) (K _ S3)
theorem lc_meet {w : zE} {g : zG} {b L i : Nat} {xs : Nat → Int32} {M : zM} (F : zF w g RL cL_law 4 1000) (J : zJ w) (hX : va_X b L xs g.2.1.1 g.2.1.1.heap) (hbl : b < g.2.1.1.heap.size) (hbA : ¬ g.2.2.2.1 b) (hi : i + 6 ≤ L) (hL : L ≤ 3072) (S : Sim M) (K : ∀ M, Sim M → ZW w g 4 1236 [some (.ref b), some (.ref (w.2.2 0)), some (.ref (w.2.2 138)), some (.int (nI i))] [] M) : ZW w g 4 747 [some (.ref b), some (.ref (w.2.2 0)), some (.ref (w.2.2 138)), some (.int (nI i))] [] M := by
  refine z_aload_n F dL_law_747 rfl ?_
  refine z_aload_n F dL_law_748 rfl ?_
  refine z_iload_n F dL_law_749 rfl ?_
  refine z_iconst (v := 1) F dL_law_750 (by decide) ?_
  refine z_iadd F dL_law_751 ?_
  refine z_scr F hX hbl hbA (l_in6 (c := 1) rfl (by decide) hi hL) dL_law_752 ?_
  refine z_aload_n F dL_law_753 rfl ?_
  refine z_iload_n F dL_law_754 rfl ?_
  refine z_iconst (v := 2) F dL_law_755 (by decide) ?_
  refine z_iadd F dL_law_756 ?_
  refine z_scr F hX hbl hbA (l_in6 (c := 2) rfl (by decide) hi hL) dL_law_757 ?_
  refine z_callVi F (q7_meet J S) zm_X7_meet zv_X7_meet ml_L_102 (show zk 0 = 7 by decide) (by decide) rfl rfl rfl (Nat.le_of_ble_eq_true rfl) dL_law_758 (by omega) (fun r1 M2 h1 => ?_)
  refine z_pop F dL_law_761 rfl ?_
  refine z_aload_n F dL_law_762 rfl ?_
  refine z_aload_n F dL_law_763 rfl ?_
  refine z_iload_n F dL_law_764 rfl ?_
  refine z_iconst (v := 1) F dL_law_765 (by decide) ?_
  refine z_iadd F dL_law_766 ?_
  refine z_scr F hX hbl hbA (l_in6 (c := 1) rfl (by decide) hi hL) dL_law_767 ?_
  refine z_aload_n F dL_law_768 rfl ?_
  refine z_iload_n F dL_law_769 rfl ?_
  refine z_iconst (v := 2) F dL_law_770 (by decide) ?_
  refine z_iadd F dL_law_771 ?_
  refine z_scr F hX hbl hbA (l_in6 (c := 2) rfl (by decide) hi hL) dL_law_772 ?_
  refine z_callVi F (q8_meet J h1) zm_X8_meet zv_X8_meet ml_L_105 (show zk 138 = 8 by decide) (by decide) rfl rfl rfl (Nat.le_of_ble_eq_true rfl) dL_law_773 (by omega) (fun r2 M3 h2 => ?_)
  obtain ⟨S3, e⟩ := h2
  refine z_pop F dL_law_776 rfl ?_
  exact z_goto (tgt := 1236) F dL_law_777 (by decide) (K _ S3)
theorem lc_first {w : zE} {g : zG} {b L i : Nat} {xs : Nat → Int32} {M : zM} (F : zF w g RL cL_law 4 1000) (J : zJ w) (hX : va_X b L xs g.2.1.1 g.2.1.1.heap) (hbl : b < g.2.1.1.heap.size) (hbA : ¬ g.2.2.2.1 b) (hi : i + 6 ≤ L) (hL : L ≤ 3072) (S : Sim M) (K : ∀ M, Sim M → ZW w g 4 1236 [some (.ref b), some (.ref (w.2.2 0)), some (.ref (w.2.2 138)), some (.int (nI i))] [] M) : ZW w g 4 780 [some (.ref b), some (.ref (w.2.2 0)), some (.ref (w.2.2 138)), some (.int (nI i))] [] M := by
  refine z_aload_n F dL_law_780 rfl ?_
  refine z_aload_n F dL_law_781 rfl ?_
  refine z_iload_n F dL_law_782 rfl ?_
  refine z_iconst (v := 1) F dL_law_783 (by decide) ?_
  refine z_iadd F dL_law_784 ?_
  refine z_scr F hX hbl hbA (l_in6 (c := 1) rfl (by decide) hi hL) dL_law_785 ?_
  refine z_callVi F (q7_first J S) zm_X7_first zv_X7_first ml_L_106 (show zk 0 = 7 by decide) (by decide) rfl rfl rfl (Nat.le_of_ble_eq_true rfl) dL_law_786 (by omega) (fun r1 M2 h1 => ?_)
  refine z_pop F dL_law_789 rfl ?_
  refine z_aload_n F dL_law_790 rfl ?_
  refine z_aload_n F dL_law_791 rfl ?_
  refine z_iload_n F dL_law_792 rfl ?_
  refine z_iconst (v := 1) F dL_law_793 (by decide) ?_
  refine z_iadd F dL_law_794 ?_
  refine z_scr F hX hbl hbA (l_in6 (c := 1) rfl (by decide) hi hL) dL_law_795 ?_
  refine z_callVi F (q8_first J h1) zm_X8_first zv_X8_first ml_L_109 (show zk 138 = 8 by decide) (by decide) rfl rfl rfl (Nat.le_of_ble_eq_true rfl) dL_law_796 (by omega) (fun r2 M3 h2 => ?_)
  obtain ⟨S3, e⟩ := h2
  refine z_pop F dL_law_799 rfl ?_
  exact z_goto (tgt := 1236) F dL_law_800 (by decide) (K _ S3)
theorem lc_cheated {w : zE} {g : zG} {b L i : Nat} {xs : Nat → Int32} {M : zM} (F : zF w g RL cL_law 4 1000) (J : zJ w) (hX : va_X b L xs g.2.1.1 g.2.1.1.heap) (hbl : b < g.2.1.1.heap.size) (hbA : ¬ g.2.2.2.1 b) (hi : i + 6 ≤ L) (hL : L ≤ 3072) (S : Sim M) (K : ∀ M, Sim M → ZW w g 4 1236 [some (.ref b), some (.ref (w.2.2 0)), some (.ref (w.2.2 138)), some (.int (nI i))] [] M) : ZW w g 4 803 [some (.ref b), some (.ref (w.2.2 0)), some (.ref (w.2.2 138)), some (.int (nI i))] [] M := by
  refine z_aload_n F dL_law_803 rfl ?_
  refine z_aload_n F dL_law_804 rfl ?_
  refine z_iload_n F dL_law_805 rfl ?_
  refine z_iconst (v := 1) F dL_law_806 (by decide) ?_
  refine z_iadd F dL_law_807 ?_
  refine z_scr F hX hbl hbA (l_in6 (c := 1) rfl (by decide) hi hL) dL_law_808 ?_
  refine z_callVi F (q7_cheated J S) zm_X7_cheated zv_X7_cheated ml_L_110 (show zk 0 = 7 by decide) (by decide) rfl rfl rfl (Nat.le_of_ble_eq_true rfl) dL_law_809 (by omega) (fun r1 M2 h1 => ?_)
  refine z_pop F dL_law_812 rfl ?_
  refine z_aload_n F dL_law_813 rfl ?_
  refine z_aload_n F dL_law_814 rfl ?_
  refine z_iload_n F dL_law_815 rfl ?_
  refine z_iconst (v := 1) F dL_law_816 (by decide) ?_
  refine z_iadd F dL_law_817 ?_
  refine z_scr F hX hbl hbA (l_in6 (c := 1) rfl (by decide) hi hL) dL_law_818 ?_
  refine z_callVi F (q8_cheated J h1) zm_X8_cheated zv_X8_cheated ml_L_113 (show zk 138 = 8 by decide) (by decide) rfl rfl rfl (Nat.le_of_ble_eq_true rfl) dL_law_819 (by omega) (fun r2 M3 h2 => ?_)
  obtain ⟨S3, e⟩ := h2
  refine z_pop F dL_law_822 rfl ?_
  exact z_goto (tgt := 1236) F dL_law_823 (by decide) (K _ S3)
theorem lc_chance {w : zE} {g : zG} {b L i : Nat} {xs : Nat → Int32} {M : zM} (F : zF w g RL cL_law 4 1000) (J : zJ w) (hX : va_X b L xs g.2.1.1 g.2.1.1.heap) (hbl : b < g.2.1.1.heap.size) (hbA : ¬ g.2.2.2.1 b) (hi : i + 6 ≤ L) (hL : L ≤ 3072) (S : Sim M) (K : ∀ M, Sim M → ZW w g 4 1236 [some (.ref b), some (.ref (w.2.2 0)), some (.ref (w.2.2 138)), some (.int (nI i))] [] M) : ZW w g 4 826 [some (.ref b), some (.ref (w.2.2 0)), some (.ref (w.2.2 138)), some (.int (nI i))] [] M := by
  refine z_aload_n F dL_law_826 rfl ?_
  refine z_aload_n F dL_law_827 rfl ?_
  refine z_iload_n F dL_law_828 rfl ?_
  refine z_iconst (v := 1) F dL_law_829 (by decide) ?_
  refine z_iadd F dL_law_830 ?_
  refine z_scr F hX hbl hbA (l_in6 (c := 1) rfl (by decide) hi hL) dL_law_831 ?_
  refine z_aload_n F dL_law_832 rfl ?_
  refine z_iload_n F dL_law_833 rfl ?_
  refine z_iconst (v := 2) F dL_law_834 (by decide) ?_
  refine z_iadd F dL_law_835 ?_
  refine z_scr F hX hbl hbA (l_in6 (c := 2) rfl (by decide) hi hL) dL_law_836 ?_
  refine z_callVi F (q7_chance J S) zm_X7_chance zv_X7_chance ml_L_114 (show zk 0 = 7 by decide) (by decide) rfl rfl rfl (Nat.le_of_ble_eq_true rfl) dL_law_837 (by omega) (fun r1 M2 h1 => ?_)
  refine z_pop F dL_law_840 rfl ?_
  refine z_aload_n F dL_law_841 rfl ?_
  refine z_aload_n F dL_law_842 rfl ?_
  refine z_iload_n F dL_law_843 rfl ?_
  refine z_iconst (v := 1) F dL_law_844 (by decide) ?_
  refine z_iadd F dL_law_845 ?_
  refine z_scr F hX hbl hbA (l_in6 (c := 1) rfl (by decide) hi hL) dL_law_846 ?_
  refine z_aload_n F dL_law_847 rfl ?_
  refine z_iload_n F dL_law_848 rfl ?_
  refine z_iconst (v := 2) F dL_law_849 (by decide) ?_
  refine z_iadd F dL_law_850 ?_
  refine z_scr F hX hbl hbA (l_in6 (c := 2) rfl (by decide) hi hL) dL_law_851 ?_
  refine z_callVi F (q8_chance J h1) zm_X8_chance zv_X8_chance ml_L_117 (show zk 138 = 8 by decide) (by decide) rfl rfl rfl (Nat.le_of_ble_eq_true rfl) dL_law_852 (by omega) (fun r2 M3 h2 => ?_)
  obtain ⟨S3, e⟩ := h2
  refine z_pop F dL_law_855 rfl ?_
  exact z_goto (tgt := 1236) F dL_law_856 (by decide) (K _ S3)
theorem lc_image {w : zE} {g : zG} {b L i : Nat} {xs : Nat → Int32} {M : zM} (F : zF w g RL cL_law 4 1000) (J : zJ w) (hX : va_X b L xs g.2.1.1 g.2.1.1.heap) (hbl : b < g.2.1.1.heap.size) (hbA : ¬ g.2.2.2.1 b) (hi : i + 6 ≤ L) (hL : L ≤ 3072) (S : Sim M) (K : ∀ M, Sim M → ZW w g 4 1236 [some (.ref b), some (.ref (w.2.2 0)), some (.ref (w.2.2 138)), some (.int (nI i))] [] M) : ZW w g 4 859 [some (.ref b), some (.ref (w.2.2 0)), some (.ref (w.2.2 138)), some (.int (nI i))] [] M := by
  refine z_aload_n F dL_law_859 rfl ?_
  refine z_callVi F (q7_image J S) zm_X7_image zv_X7_image ml_L_118 (show zk 0 = 7 by decide) (by decide) rfl rfl rfl (Nat.le_of_ble_eq_true rfl) dL_law_860 (by omega) (fun r1 M2 h1 => ?_)
  refine z_pop F dL_law_863 rfl ?_
  refine z_aload_n F dL_law_864 rfl ?_
  refine z_callVi F (q8_image J h1) zm_X8_image zv_X8_image ml_L_121 (show zk 138 = 8 by decide) (by decide) rfl rfl rfl (Nat.le_of_ble_eq_true rfl) dL_law_865 (by omega) (fun r2 M3 h2 => ?_)
  obtain ⟨S3, e⟩ := h2
  refine z_pop F dL_law_868 rfl ?_
  exact z_goto (tgt := 1236) F dL_law_869 (by decide) (K _ S3)
theorem lc_restore {w : zE} {g : zG} {b L i : Nat} {xs : Nat → Int32} {M : zM} (F : zF w g RL cL_law 4 1000) (J : zJ w) (hX : va_X b L xs g.2.1.1 g.2.1.1.heap) (hbl : b < g.2.1.1.heap.size) (hbA : ¬ g.2.2.2.1 b) (hi : i + 6 ≤ L) (hL : L ≤ 3072) (S : Sim M) (K : ∀ M, Sim M → ZW w g 4 1236 [some (.ref b), some (.ref (w.2.2 0)), some (.ref (w.2.2 138)), some (.int (nI i))] [] M) : ZW w g 4 872 [some (.ref b), some (.ref (w.2.2 0)), some (.ref (w.2.2 138)), some (.int (nI i))] [] M := by
  refine z_aload_n F dL_law_872 rfl ?_
  refine z_callVi F (q7_restore J S) zm_X7_restore zv_X7_restore ml_L_122 (show zk 0 = 7 by decide) (by decide) rfl rfl rfl (Nat.le_of_ble_eq_true rfl) dL_law_873 (by omega) (fun r1 M2 h1 => ?_)
  refine z_pop F dL_law_876 rfl ?_
  refine z_aload_n F dL_law_877 rfl ?_
  refine z_callVi F (q8_restore J h1) zm_X8_restore zv_X8_restore ml_L_125 (show zk 138 = 8 by decide) (by decide) rfl rfl rfl (Nat.le_of_ble_eq_true rfl) dL_law_878 (by omega) (fun r2 M3 h2 => ?_)
  obtain ⟨S3, e⟩ := h2
  refine z_pop F dL_law_881 rfl ?_
  exact z_goto (tgt := 1236) F dL_law_882 (by decide) (K _ S3)
theorem lc_seen {w : zE} {g : zG} {b L i : Nat} {xs : Nat → Int32} {M : zM} (F : zF w g RL cL_law 4 1000) (J : zJ w) (hX : va_X b L xs g.2.1.1 g.2.1.1.heap) (hbl : b < g.2.1.1.heap.size) (hbA : ¬ g.2.2.2.1 b) (hi : i + 6 ≤ L) (hL : L ≤ 3072) (S : Sim M) (K : ∀ M, Sim M → ZW w g 4 1236 [some (.ref b), some (.ref (w.2.2 0)), some (.ref (w.2.2 138)), some (.int (nI i))] [] M) : ZW w g 4 885 [some (.ref b), some (.ref (w.2.2 0)), some (.ref (w.2.2 138)), some (.int (nI i))] [] M := by
  refine z_aload_n F dL_law_885 rfl ?_
  refine z_aload_n F dL_law_886 rfl ?_
  refine z_iload_n F dL_law_887 rfl ?_
  refine z_iconst (v := 1) F dL_law_888 (by decide) ?_
  refine z_iadd F dL_law_889 ?_
  refine z_scr F hX hbl hbA (l_in6 (c := 1) rfl (by decide) hi hL) dL_law_890 ?_
  refine z_aload_n F dL_law_891 rfl ?_
  refine z_iload_n F dL_law_892 rfl ?_
  refine z_iconst (v := 2) F dL_law_893 (by decide) ?_
  refine z_iadd F dL_law_894 ?_
  refine z_scr F hX hbl hbA (l_in6 (c := 2) rfl (by decide) hi hL) dL_law_895 ?_
  refine z_aload_n F dL_law_896 rfl ?_
  refine z_iload_n F dL_law_897 rfl ?_
  refine z_iconst (v := 3) F dL_law_898 (by decide) ?_
  refine z_iadd F dL_law_899 ?_
  refine z_scr F hX hbl hbA (l_in6 (c := 3) rfl (by decide) hi hL) dL_law_900 ?_
  refine z_aload_n F dL_law_901 rfl ?_
  refine z_iload_n F dL_law_902 rfl ?_
  refine z_iconst (v := 4) F dL_law_903 (by decide) ?_
  refine z_iadd F dL_law_904 ?_
  refine z_scr F hX hbl hbA (l_in6 (c := 4) rfl (by decide) hi hL) dL_law_905 ?_
  refine z_callVi F (q7_seen J S) zm_X7_seen zv_X7_seen ml_L_126 (show zk 0 = 7 by decide) (by decide) rfl rfl rfl (Nat.le_of_ble_eq_true rfl) dL_law_906 (by omega) (fun r1 M2 h1 => ?_)
  refine z_pop F dL_law_909 rfl ?_
  refine z_aload_n F dL_law_910 rfl ?_
  refine z_aload_n F dL_law_911 rfl ?_
  refine z_iload_n F dL_law_912 rfl ?_
  refine z_iconst (v := 1) F dL_law_913 (by decide) ?_
  refine z_iadd F dL_law_914 ?_
  refine z_scr F hX hbl hbA (l_in6 (c := 1) rfl (by decide) hi hL) dL_law_915 ?_
  refine z_aload_n F dL_law_916 rfl ?_
  refine z_iload_n F dL_law_917 rfl ?_
  refine z_iconst (v := 2) F dL_law_918 (by decide) ?_
  refine z_iadd F dL_law_919 ?_
  refine z_scr F hX hbl hbA (l_in6 (c := 2) rfl (by decide) hi hL) dL_law_920 ?_
  refine z_aload_n F dL_law_921 rfl ?_
  refine z_iload_n F dL_law_922 rfl ?_
  refine z_iconst (v := 3) F dL_law_923 (by decide) ?_
  refine z_iadd F dL_law_924 ?_
  refine z_scr F hX hbl hbA (l_in6 (c := 3) rfl (by decide) hi hL) dL_law_925 ?_
  refine z_aload_n F dL_law_926 rfl ?_
  refine z_iload_n F dL_law_927 rfl ?_
  refine z_iconst (v := 4) F dL_law_928 (by decide) ?_
  refine z_iadd F dL_law_929 ?_
  refine z_scr F hX hbl hbA (l_in6 (c := 4) rfl (by decide) hi hL) dL_law_930 ?_
  refine z_callVi F (q8_seen J h1) zm_X8_seen zv_X8_seen ml_L_129 (show zk 138 = 8 by decide) (by decide) rfl rfl rfl (Nat.le_of_ble_eq_true rfl) dL_law_931 (by omega) (fun r2 M3 h2 => ?_)
  obtain ⟨S3, e⟩ := h2
  refine z_pop F dL_law_934 rfl ?_
  exact z_goto (tgt := 1236) F dL_law_935 (by decide) (K _ S3)
theorem lc_film {w : zE} {g : zG} {b L i : Nat} {xs : Nat → Int32} {M : zM} (F : zF w g RL cL_law 4 1000) (J : zJ w) (hX : va_X b L xs g.2.1.1 g.2.1.1.heap) (hbl : b < g.2.1.1.heap.size) (hbA : ¬ g.2.2.2.1 b) (hi : i + 6 ≤ L) (hL : L ≤ 3072) (S : Sim M) (K : ∀ M, Sim M → ZW w g 4 1236 [some (.ref b), some (.ref (w.2.2 0)), some (.ref (w.2.2 138)), some (.int (nI i))] [] M) : ZW w g 4 938 [some (.ref b), some (.ref (w.2.2 0)), some (.ref (w.2.2 138)), some (.int (nI i))] [] M := by
  refine z_aload_n F dL_law_938 rfl ?_
  refine z_aload_n F dL_law_939 rfl ?_
  refine z_iload_n F dL_law_940 rfl ?_
  refine z_iconst (v := 1) F dL_law_941 (by decide) ?_
  refine z_iadd F dL_law_942 ?_
  refine z_scr F hX hbl hbA (l_in6 (c := 1) rfl (by decide) hi hL) dL_law_943 ?_
  refine z_aload_n F dL_law_944 rfl ?_
  refine z_iload_n F dL_law_945 rfl ?_
  refine z_iconst (v := 2) F dL_law_946 (by decide) ?_
  refine z_iadd F dL_law_947 ?_
  refine z_scr F hX hbl hbA (l_in6 (c := 2) rfl (by decide) hi hL) dL_law_948 ?_
  refine z_aload_n F dL_law_949 rfl ?_
  refine z_iload_n F dL_law_950 rfl ?_
  refine z_iconst (v := 3) F dL_law_951 (by decide) ?_
  refine z_iadd F dL_law_952 ?_
  refine z_scr F hX hbl hbA (l_in6 (c := 3) rfl (by decide) hi hL) dL_law_953 ?_
  refine z_callVi F (q7_film J S) zm_X7_film zv_X7_film ml_L_130 (show zk 0 = 7 by decide) (by decide) rfl rfl rfl (Nat.le_of_ble_eq_true rfl) dL_law_954 (by omega) (fun r1 M2 h1 => ?_)
  refine z_pop F dL_law_957 rfl ?_
  refine z_aload_n F dL_law_958 rfl ?_
  refine z_aload_n F dL_law_959 rfl ?_
  refine z_iload_n F dL_law_960 rfl ?_
  refine z_iconst (v := 1) F dL_law_961 (by decide) ?_
  refine z_iadd F dL_law_962 ?_
  refine z_scr F hX hbl hbA (l_in6 (c := 1) rfl (by decide) hi hL) dL_law_963 ?_
  refine z_aload_n F dL_law_964 rfl ?_
  refine z_iload_n F dL_law_965 rfl ?_
  refine z_iconst (v := 2) F dL_law_966 (by decide) ?_
  refine z_iadd F dL_law_967 ?_
  refine z_scr F hX hbl hbA (l_in6 (c := 2) rfl (by decide) hi hL) dL_law_968 ?_
  refine z_aload_n F dL_law_969 rfl ?_
  refine z_iload_n F dL_law_970 rfl ?_
  refine z_iconst (v := 3) F dL_law_971 (by decide) ?_
  refine z_iadd F dL_law_972 ?_
  refine z_scr F hX hbl hbA (l_in6 (c := 3) rfl (by decide) hi hL) dL_law_973 ?_
  refine z_callVi F (q8_film J h1) zm_X8_film zv_X8_film ml_L_133 (show zk 138 = 8 by decide) (by decide) rfl rfl rfl (Nat.le_of_ble_eq_true rfl) dL_law_974 (by omega) (fun r2 M3 h2 => ?_)
  obtain ⟨S3, e⟩ := h2
  refine z_pop F dL_law_977 rfl ?_
  exact z_goto (tgt := 1236) F dL_law_978 (by decide) (K _ S3)
theorem lc_deal {w : zE} {g : zG} {b L i : Nat} {xs : Nat → Int32} {M : zM} (F : zF w g RL cL_law 4 1000) (J : zJ w) (hX : va_X b L xs g.2.1.1 g.2.1.1.heap) (hbl : b < g.2.1.1.heap.size) (hbA : ¬ g.2.2.2.1 b) (hi : i + 6 ≤ L) (hL : L ≤ 3072) (S : Sim M) (K : ∀ M, Sim M → ZW w g 4 1236 [some (.ref b), some (.ref (w.2.2 0)), some (.ref (w.2.2 138)), some (.int (nI i))] [] M) : ZW w g 4 981 [some (.ref b), some (.ref (w.2.2 0)), some (.ref (w.2.2 138)), some (.int (nI i))] [] M := by
  refine z_aload_n F dL_law_981 rfl ?_
  refine z_aload_n F dL_law_982 rfl ?_
  refine z_iload_n F dL_law_983 rfl ?_
  refine z_iconst (v := 1) F dL_law_984 (by decide) ?_
  refine z_iadd F dL_law_985 ?_
  refine z_scr F hX hbl hbA (l_in6 (c := 1) rfl (by decide) hi hL) dL_law_986 ?_
  refine z_aload_n F dL_law_987 rfl ?_
  refine z_iload_n F dL_law_988 rfl ?_
  refine z_iconst (v := 2) F dL_law_989 (by decide) ?_
  refine z_iadd F dL_law_990 ?_
  refine z_scr F hX hbl hbA (l_in6 (c := 2) rfl (by decide) hi hL) dL_law_991 ?_
  refine z_aload_n F dL_law_992 rfl ?_
  refine z_iload_n F dL_law_993 rfl ?_
  refine z_iconst (v := 3) F dL_law_994 (by decide) ?_
  refine z_iadd F dL_law_995 ?_
  refine z_scr F hX hbl hbA (l_in6 (c := 3) rfl (by decide) hi hL) dL_law_996 ?_
  refine z_callVi F (q7_deal J S) zm_X7_deal zv_X7_deal ml_L_134 (show zk 0 = 7 by decide) (by decide) rfl rfl rfl (Nat.le_of_ble_eq_true rfl) dL_law_997 (by omega) (fun r1 M2 h1 => ?_)
  refine z_pop F dL_law_1000 rfl ?_
  refine z_aload_n F dL_law_1001 rfl ?_
  refine z_aload_n F dL_law_1002 rfl ?_
  refine z_iload_n F dL_law_1003 rfl ?_
  refine z_iconst (v := 1) F dL_law_1004 (by decide) ?_
  refine z_iadd F dL_law_1005 ?_
  refine z_scr F hX hbl hbA (l_in6 (c := 1) rfl (by decide) hi hL) dL_law_1006 ?_
  refine z_aload_n F dL_law_1007 rfl ?_
  refine z_iload_n F dL_law_1008 rfl ?_
  refine z_iconst (v := 2) F dL_law_1009 (by decide) ?_
  refine z_iadd F dL_law_1010 ?_
  refine z_scr F hX hbl hbA (l_in6 (c := 2) rfl (by decide) hi hL) dL_law_1011 ?_
  refine z_aload_n F dL_law_1012 rfl ?_
  refine z_iload_n F dL_law_1013 rfl ?_
  refine z_iconst (v := 3) F dL_law_1014 (by decide) ?_
  refine z_iadd F dL_law_1015 ?_
  refine z_scr F hX hbl hbA (l_in6 (c := 3) rfl (by decide) hi hL) dL_law_1016 ?_
  refine z_callVi F (q8_deal J h1) zm_X8_deal zv_X8_deal ml_L_137 (show zk 138 = 8 by decide) (by decide) rfl rfl rfl (Nat.le_of_ble_eq_true rfl) dL_law_1017 (by omega) (fun r2 M3 h2 => ?_)
  obtain ⟨S3, e⟩ := h2
  refine z_pop F dL_law_1020 rfl ?_
  exact z_goto (tgt := 1236) F dL_law_1021 (by decide) (K _ S3)
theorem lc_sheet {w : zE} {g : zG} {b L i : Nat} {xs : Nat → Int32} {M : zM} (F : zF w g RL cL_law 4 1000) (J : zJ w) (hX : va_X b L xs g.2.1.1 g.2.1.1.heap) (hbl : b < g.2.1.1.heap.size) (hbA : ¬ g.2.2.2.1 b) (hi : i + 6 ≤ L) (hL : L ≤ 3072) (S : Sim M) (K : ∀ M, Sim M → ZW w g 4 1236 [some (.ref b), some (.ref (w.2.2 0)), some (.ref (w.2.2 138)), some (.int (nI i))] [] M) : ZW w g 4 1024 [some (.ref b), some (.ref (w.2.2 0)), some (.ref (w.2.2 138)), some (.int (nI i))] [] M := by
  refine z_aload_n F dL_law_1024 rfl ?_
  refine z_aload_n F dL_law_1025 rfl ?_
  refine z_iload_n F dL_law_1026 rfl ?_
  refine z_iconst (v := 1) F dL_law_1027 (by decide) ?_
  refine z_iadd F dL_law_1028 ?_
  refine z_scr F hX hbl hbA (l_in6 (c := 1) rfl (by decide) hi hL) dL_law_1029 ?_
  refine z_aload_n F dL_law_1030 rfl ?_
  refine z_iload_n F dL_law_1031 rfl ?_
  refine z_iconst (v := 2) F dL_law_1032 (by decide) ?_
  refine z_iadd F dL_law_1033 ?_
  refine z_scr F hX hbl hbA (l_in6 (c := 2) rfl (by decide) hi hL) dL_law_1034 ?_
  refine z_aload_n F dL_law_1035 rfl ?_
  refine z_iload_n F dL_law_1036 rfl ?_
  refine z_iconst (v := 3) F dL_law_1037 (by decide) ?_
  refine z_iadd F dL_law_1038 ?_
  refine z_scr F hX hbl hbA (l_in6 (c := 3) rfl (by decide) hi hL) dL_law_1039 ?_
  refine z_callVi F (q7_sheet J S) zm_X7_sheet zv_X7_sheet ml_L_138 (show zk 0 = 7 by decide) (by decide) rfl rfl rfl (Nat.le_of_ble_eq_true rfl) dL_law_1040 (by omega) (fun r1 M2 h1 => ?_)
  refine z_pop F dL_law_1043 rfl ?_
  refine z_aload_n F dL_law_1044 rfl ?_
  refine z_aload_n F dL_law_1045 rfl ?_
  refine z_iload_n F dL_law_1046 rfl ?_
  refine z_iconst (v := 1) F dL_law_1047 (by decide) ?_
  refine z_iadd F dL_law_1048 ?_
  refine z_scr F hX hbl hbA (l_in6 (c := 1) rfl (by decide) hi hL) dL_law_1049 ?_
  refine z_aload_n F dL_law_1050 rfl ?_
  refine z_iload_n F dL_law_1051 rfl ?_
  refine z_iconst (v := 2) F dL_law_1052 (by decide) ?_
  refine z_iadd F dL_law_1053 ?_
  refine z_scr F hX hbl hbA (l_in6 (c := 2) rfl (by decide) hi hL) dL_law_1054 ?_
  refine z_aload_n F dL_law_1055 rfl ?_
  refine z_iload_n F dL_law_1056 rfl ?_
  refine z_iconst (v := 3) F dL_law_1057 (by decide) ?_
  refine z_iadd F dL_law_1058 ?_
  refine z_scr F hX hbl hbA (l_in6 (c := 3) rfl (by decide) hi hL) dL_law_1059 ?_
  refine z_callVi F (q8_sheet J h1) zm_X8_sheet zv_X8_sheet ml_L_141 (show zk 138 = 8 by decide) (by decide) rfl rfl rfl (Nat.le_of_ble_eq_true rfl) dL_law_1060 (by omega) (fun r2 M3 h2 => ?_)
  obtain ⟨S3, e⟩ := h2
  refine z_pop F dL_law_1063 rfl ?_
  exact z_goto (tgt := 1236) F dL_law_1064 (by decide) (K _ S3)
theorem lc_drop {w : zE} {g : zG} {b L i : Nat} {xs : Nat → Int32} {M : zM} (F : zF w g RL cL_law 4 1000) (J : zJ w) (hX : va_X b L xs g.2.1.1 g.2.1.1.heap) (hbl : b < g.2.1.1.heap.size) (hbA : ¬ g.2.2.2.1 b) (hi : i + 6 ≤ L) (hL : L ≤ 3072) (S : Sim M) (K : ∀ M, Sim M → ZW w g 4 1236 [some (.ref b), some (.ref (w.2.2 0)), some (.ref (w.2.2 138)), some (.int (nI i))] [] M) : ZW w g 4 1067 [some (.ref b), some (.ref (w.2.2 0)), some (.ref (w.2.2 138)), some (.int (nI i))] [] M := by
  refine z_aload_n F dL_law_1067 rfl ?_
  refine z_aload_n F dL_law_1068 rfl ?_
  refine z_iload_n F dL_law_1069 rfl ?_
  refine z_iconst (v := 1) F dL_law_1070 (by decide) ?_
  refine z_iadd F dL_law_1071 ?_
  refine z_scr F hX hbl hbA (l_in6 (c := 1) rfl (by decide) hi hL) dL_law_1072 ?_
  refine z_callVi F (q7_drop J S) zm_X7_drop zv_X7_drop ml_L_142 (show zk 0 = 7 by decide) (by decide) rfl rfl rfl (Nat.le_of_ble_eq_true rfl) dL_law_1073 (by omega) (fun r1 M2 h1 => ?_)
  refine z_pop F dL_law_1076 rfl ?_
  refine z_aload_n F dL_law_1077 rfl ?_
  refine z_aload_n F dL_law_1078 rfl ?_
  refine z_iload_n F dL_law_1079 rfl ?_
  refine z_iconst (v := 1) F dL_law_1080 (by decide) ?_
  refine z_iadd F dL_law_1081 ?_
  refine z_scr F hX hbl hbA (l_in6 (c := 1) rfl (by decide) hi hL) dL_law_1082 ?_
  refine z_callVi F (q8_drop J h1) zm_X8_drop zv_X8_drop ml_L_145 (show zk 138 = 8 by decide) (by decide) rfl rfl rfl (Nat.le_of_ble_eq_true rfl) dL_law_1083 (by omega) (fun r2 M3 h2 => ?_)
  obtain ⟨S3, e⟩ := h2
  refine z_pop F dL_law_1086 rfl ?_
  exact z_goto (tgt := 1236) F dL_law_1087 (by decide) (K _ S3)
theorem lc_item {w : zE} {g : zG} {b L i : Nat} {xs : Nat → Int32} {M : zM} (F : zF w g RL cL_law 4 1000) (J : zJ w) (hX : va_X b L xs g.2.1.1 g.2.1.1.heap) (hbl : b < g.2.1.1.heap.size) (hbA : ¬ g.2.2.2.1 b) (hi : i + 6 ≤ L) (hL : L ≤ 3072) (S : Sim M) (K : ∀ M, Sim M → ZW w g 4 1236 [some (.ref b), some (.ref (w.2.2 0)), some (.ref (w.2.2 138)), some (.int (nI i))] [] M) : ZW w g 4 1090 [some (.ref b), some (.ref (w.2.2 0)), some (.ref (w.2.2 138)), some (.int (nI i))] [] M := by
  refine z_aload_n F dL_law_1090 rfl ?_
  refine z_aload_n F dL_law_1091 rfl ?_
  refine z_iload_n F dL_law_1092 rfl ?_
  refine z_iconst (v := 1) F dL_law_1093 (by decide) ?_
  refine z_iadd F dL_law_1094 ?_
  refine z_scr F hX hbl hbA (l_in6 (c := 1) rfl (by decide) hi hL) dL_law_1095 ?_
  refine z_aload_n F dL_law_1096 rfl ?_
  refine z_iload_n F dL_law_1097 rfl ?_
  refine z_iconst (v := 2) F dL_law_1098 (by decide) ?_
  refine z_iadd F dL_law_1099 ?_
  refine z_scr F hX hbl hbA (l_in6 (c := 2) rfl (by decide) hi hL) dL_law_1100 ?_
  refine z_aload_n F dL_law_1101 rfl ?_
  refine z_iload_n F dL_law_1102 rfl ?_
  refine z_iconst (v := 3) F dL_law_1103 (by decide) ?_
  refine z_iadd F dL_law_1104 ?_
  refine z_scr F hX hbl hbA (l_in6 (c := 3) rfl (by decide) hi hL) dL_law_1105 ?_
  refine z_aload_n F dL_law_1106 rfl ?_
  refine z_iload_n F dL_law_1107 rfl ?_
  refine z_iconst (v := 4) F dL_law_1108 (by decide) ?_
  refine z_iadd F dL_law_1109 ?_
  refine z_scr F hX hbl hbA (l_in6 (c := 4) rfl (by decide) hi hL) dL_law_1110 ?_
  refine z_i2l F dL_law_1111 ?_
  refine z_bipush (v := 32) F dL_law_1112 (by decide) ?_
  refine z_lshl F dL_law_1114 ?_
  refine z_aload_n F dL_law_1115 rfl ?_
  refine z_iload_n F dL_law_1116 rfl ?_
  refine z_iconst (v := 5) F dL_law_1117 (by decide) ?_
  refine z_iadd F dL_law_1118 ?_
  refine z_scr F hX hbl hbA (l_in6 (c := 5) rfl (by decide) hi hL) dL_law_1119 ?_
  refine z_i2l F dL_law_1120 ?_
  refine z_ldc2 F dL_law_1121 cl_L_146 ?_
  refine z_land F dL_law_1124 ?_
  refine z_lor F dL_law_1125 ?_
  refine z_callVi F (q7_item J S) zm_X7_item zv_X7_item ml_L_148 (show zk 0 = 7 by decide) (by decide) rfl rfl rfl (Nat.le_of_ble_eq_true rfl) dL_law_1126 (by omega) (fun r1 M2 h1 => ?_)
  refine z_pop F dL_law_1129 rfl ?_
  refine z_aload_n F dL_law_1130 rfl ?_
  refine z_aload_n F dL_law_1131 rfl ?_
  refine z_iload_n F dL_law_1132 rfl ?_
  refine z_iconst (v := 1) F dL_law_1133 (by decide) ?_
  refine z_iadd F dL_law_1134 ?_
  refine z_scr F hX hbl hbA (l_in6 (c := 1) rfl (by decide) hi hL) dL_law_1135 ?_
  refine z_aload_n F dL_law_1136 rfl ?_
  refine z_iload_n F dL_law_1137 rfl ?_
  refine z_iconst (v := 2) F dL_law_1138 (by decide) ?_
  refine z_iadd F dL_law_1139 ?_
  refine z_scr F hX hbl hbA (l_in6 (c := 2) rfl (by decide) hi hL) dL_law_1140 ?_
  refine z_aload_n F dL_law_1141 rfl ?_
  refine z_iload_n F dL_law_1142 rfl ?_
  refine z_iconst (v := 3) F dL_law_1143 (by decide) ?_
  refine z_iadd F dL_law_1144 ?_
  refine z_scr F hX hbl hbA (l_in6 (c := 3) rfl (by decide) hi hL) dL_law_1145 ?_
  refine z_aload_n F dL_law_1146 rfl ?_
  refine z_iload_n F dL_law_1147 rfl ?_
  refine z_iconst (v := 4) F dL_law_1148 (by decide) ?_
  refine z_iadd F dL_law_1149 ?_
  refine z_scr F hX hbl hbA (l_in6 (c := 4) rfl (by decide) hi hL) dL_law_1150 ?_
  refine z_i2l F dL_law_1151 ?_
  refine z_bipush (v := 32) F dL_law_1152 (by decide) ?_
  refine z_lshl F dL_law_1154 ?_
  refine z_aload_n F dL_law_1155 rfl ?_
  refine z_iload_n F dL_law_1156 rfl ?_
  refine z_iconst (v := 5) F dL_law_1157 (by decide) ?_
  refine z_iadd F dL_law_1158 ?_
  refine z_scr F hX hbl hbA (l_in6 (c := 5) rfl (by decide) hi hL) dL_law_1159 ?_
  refine z_i2l F dL_law_1160 ?_
  refine z_ldc2 F dL_law_1161 cl_L_146 ?_
  refine z_land F dL_law_1164 ?_
  refine z_lor F dL_law_1165 ?_
  refine z_callVi F (q8_item J h1) zm_X8_item zv_X8_item ml_L_152 (show zk 138 = 8 by decide) (by decide) rfl rfl rfl (Nat.le_of_ble_eq_true rfl) dL_law_1166 (by omega) (fun r2 M3 h2 => ?_)
  obtain ⟨S3, e⟩ := h2
  refine z_pop F dL_law_1169 rfl ?_
  exact z_goto (tgt := 1236) F dL_law_1170 (by decide) (K _ S3)
theorem lc_copy {w : zE} {g : zG} {b L i : Nat} {xs : Nat → Int32} {M : zM} (F : zF w g RL cL_law 4 1000) (J : zJ w) (hX : va_X b L xs g.2.1.1 g.2.1.1.heap) (hbl : b < g.2.1.1.heap.size) (hbA : ¬ g.2.2.2.1 b) (hi : i + 6 ≤ L) (hL : L ≤ 3072) (S : Sim M) (K : ∀ M, Sim M → ZW w g 4 1236 [some (.ref b), some (.ref (w.2.2 0)), some (.ref (w.2.2 138)), some (.int (nI i))] [] M) : ZW w g 4 1173 [some (.ref b), some (.ref (w.2.2 0)), some (.ref (w.2.2 138)), some (.int (nI i))] [] M := by
  refine z_aload_n F dL_law_1173 rfl ?_
  refine z_aload_n F dL_law_1174 rfl ?_
  refine z_iload_n F dL_law_1175 rfl ?_
  refine z_iconst (v := 1) F dL_law_1176 (by decide) ?_
  refine z_iadd F dL_law_1177 ?_
  refine z_scr F hX hbl hbA (l_in6 (c := 1) rfl (by decide) hi hL) dL_law_1178 ?_
  refine z_aload_n F dL_law_1179 rfl ?_
  refine z_iload_n F dL_law_1180 rfl ?_
  refine z_iconst (v := 2) F dL_law_1181 (by decide) ?_
  refine z_iadd F dL_law_1182 ?_
  refine z_scr F hX hbl hbA (l_in6 (c := 2) rfl (by decide) hi hL) dL_law_1183 ?_
  refine z_aload_n F dL_law_1184 rfl ?_
  refine z_iload_n F dL_law_1185 rfl ?_
  refine z_iconst (v := 3) F dL_law_1186 (by decide) ?_
  refine z_iadd F dL_law_1187 ?_
  refine z_scr F hX hbl hbA (l_in6 (c := 3) rfl (by decide) hi hL) dL_law_1188 ?_
  refine z_aload_n F dL_law_1189 rfl ?_
  refine z_iload_n F dL_law_1190 rfl ?_
  refine z_iconst (v := 4) F dL_law_1191 (by decide) ?_
  refine z_iadd F dL_law_1192 ?_
  refine z_scr F hX hbl hbA (l_in6 (c := 4) rfl (by decide) hi hL) dL_law_1193 ?_
  refine z_aload_n F dL_law_1194 rfl ?_
  refine z_iload_n F dL_law_1195 rfl ?_
  refine z_iconst (v := 5) F dL_law_1196 (by decide) ?_
  refine z_iadd F dL_law_1197 ?_
  refine z_scr F hX hbl hbA (l_in6 (c := 5) rfl (by decide) hi hL) dL_law_1198 ?_
  refine z_callVi F (q7_copy J S) zm_X7_copy zv_X7_copy ml_L_153 (show zk 0 = 7 by decide) (by decide) rfl rfl rfl (Nat.le_of_ble_eq_true rfl) dL_law_1199 (by omega) (fun r1 M2 h1 => ?_)
  refine z_aload_n F dL_law_1202 rfl ?_
  refine z_aload_n F dL_law_1203 rfl ?_
  refine z_iload_n F dL_law_1204 rfl ?_
  refine z_iconst (v := 1) F dL_law_1205 (by decide) ?_
  refine z_iadd F dL_law_1206 ?_
  refine z_scr F hX hbl hbA (l_in6 (c := 1) rfl (by decide) hi hL) dL_law_1207 ?_
  refine z_aload_n F dL_law_1208 rfl ?_
  refine z_iload_n F dL_law_1209 rfl ?_
  refine z_iconst (v := 2) F dL_law_1210 (by decide) ?_
  refine z_iadd F dL_law_1211 ?_
  refine z_scr F hX hbl hbA (l_in6 (c := 2) rfl (by decide) hi hL) dL_law_1212 ?_
  refine z_aload_n F dL_law_1213 rfl ?_
  refine z_iload_n F dL_law_1214 rfl ?_
  refine z_iconst (v := 3) F dL_law_1215 (by decide) ?_
  refine z_iadd F dL_law_1216 ?_
  refine z_scr F hX hbl hbA (l_in6 (c := 3) rfl (by decide) hi hL) dL_law_1217 ?_
  refine z_aload_n F dL_law_1218 rfl ?_
  refine z_iload_n F dL_law_1219 rfl ?_
  refine z_iconst (v := 4) F dL_law_1220 (by decide) ?_
  refine z_iadd F dL_law_1221 ?_
  refine z_scr F hX hbl hbA (l_in6 (c := 4) rfl (by decide) hi hL) dL_law_1222 ?_
  refine z_aload_n F dL_law_1223 rfl ?_
  refine z_iload_n F dL_law_1224 rfl ?_
  refine z_iconst (v := 5) F dL_law_1225 (by decide) ?_
  refine z_iadd F dL_law_1226 ?_
  refine z_scr F hX hbl hbA (l_in6 (c := 5) rfl (by decide) hi hL) dL_law_1227 ?_
  refine z_callVi F (q8_copy J h1) zm_X8_copy zv_X8_copy ml_L_157 (show zk 138 = 8 by decide) (by decide) rfl rfl rfl (Nat.le_of_ble_eq_true rfl) dL_law_1228 (by omega) (fun r2 M3 h2 => ?_)
  obtain ⟨S3, e⟩ := h2
  exact z_ic_eq (tgt := 1236) F dL_law_1231 (by decide) (fun _ => K _ S3) (fun h => absurd e.symm h)
end
section
theorem lw_end {w : zE} {p : Program} {l : Launch} {e : Env} {s : State} {m : MethodId} {below : List Frame} {meth : Method} {c : Code} {b : Nat} (hx : p.tables.exec = Jvm.exec) (hb : c.code = code) (hr : meth.sig.returnType = ret) (hlocks : meth.locks = false) {lv : List (Option Value)} {M : zM} : ZW w ((p, l, e, room_1), (s, m, #[Value.ref b], below), (meth, c, 154, 1768), (bA s.heap.size, lw_Z below #[Value.ref b] s)) 4 1242 lv [] M := by
  intro H locs ls hl hP hS
  refine lv_iconst (v := 1) hx hb dL_law_1242 (by decide) ?_
  refine va_forget (fun q hq => hS.2.2 q hq) ?_
  refine W.widen (k := 600000) (n := 7302250) (show 154 ≤ 600000 by decide) (show 1768 ≤ 7302250 by decide) ?_
  exact lw_ret hx hb hr hlocks dL_law_1243
theorem l_go {i L : Nat} (hL : L ≤ 3072) (hi : i ≤ 4000) : nI i ≤ nI L - 6 ↔ i + 6 ≤ L := by
  rw [Int32.le_iff_toInt_le, show (6 : Int32) = nI 6 from rfl, pk_sub_toInt (by omega) (by omega), nI_toInt (by omega)]
  omega
set_option maxHeartbeats 4000000 in
theorem law_loop {w : zE} {g : zG} {b L : Nat} {xs : Nat → Int32} (F : zF w g RL cL_law 4 1000) (J : zJ w) (hL : L ≤ 3072) (hX : va_X b L xs g.2.1.1 g.2.1.1.heap) (hbl : b < g.2.1.1.heap.size) (hbA : ¬ g.2.2.2.1 b) (E : ∀ lv M, ZW w g 4 1242 lv [] M) : ∀ (n i : Nat) (M : zM), L ≤ i + n → i ≤ 3080 → Sim M → ZW w g 4 18 [some (.ref b), some (.ref (w.2.2 0)), some (.ref (w.2.2 138)), some (.int (nI i))] [] M := by
  intro n
  induction n with
  | zero =>
    intro i M hn hi S
    refine z_iload_n F dL_law_18 rfl ?_
    refine z_aload_n F dL_law_19 rfl ?_
    refine z_scl F hX hbl hbA dL_law_20 ?_
    refine z_bipush (v := 6) F dL_law_21 (by decide) ?_
    refine z_isub F dL_law_23 ?_
    exact z_ic_gt (tgt := 1242) F dL_law_24 (by decide) (fun _ => E _ _) (fun h => by have := (l_go hL (by omega)).mp h; omega)
  | succ n ih =>
    intro i M hn hi S
    refine z_iload_n F dL_law_18 rfl ?_
    refine z_aload_n F dL_law_19 rfl ?_
    refine z_scl F hX hbl hbA dL_law_20 ?_
    refine z_bipush (v := 6) F dL_law_21 (by decide) ?_
    refine z_isub F dL_law_23 ?_
    refine z_ic_gt (tgt := 1242) F dL_law_24 (by decide) (fun _ => E _ _) (fun h24 => ?_)
    have h6 : i + 6 ≤ L := (l_go hL (by omega)).mp h24
    have K : ∀ M, Sim M → ZW w g 4 1236 [some (.ref b), some (.ref (w.2.2 0)), some (.ref (w.2.2 138)), some (.int (nI i))] [] M := by
      intro M S
      refine z_iincc (c := 6) (lv' := [_, _, _, _]) F dL_law_1236 rfl (by decide) (by decide) rfl rfl ?_
      refine z_goto (tgt := 18) F dL_law_1239 (by decide) ?_
      rw [show nI i + 6 = nI (i + 6) from nI_add i 6]
      exact ih (i + 6) M (by omega) (by omega) S
    refine z_aload_n F dL_law_27 rfl ?_
    refine z_iload_n F dL_law_28 rfl ?_
    refine z_scr F hX hbl hbA (vp_in_nI (by omega) (by omega)) dL_law_29 ?_
    refine z_bipush (v := 63) F dL_law_30 (by decide) ?_
    refine z_iand F dL_law_32 ?_
    exact z_tab34 F dL_law_33 (tgt0 := 184) (tgt1 := 237) (tgt2 := 270) (tgt3 := 313) (tgt4 := 356) (tgt5 := 389) (tgt6 := 422) (tgt7 := 445) (tgt8 := 468) (tgt9 := 491) (tgt10 := 514) (tgt11 := 537) (tgt12 := 550) (tgt13 := 563) (tgt14 := 576) (tgt15 := 589) (tgt16 := 612) (tgt17 := 635) (tgt18 := 648) (tgt19 := 681) (tgt20 := 714) (tgt21 := 747) (tgt22 := 780) (tgt23 := 803) (tgt24 := 826) (tgt25 := 859) (tgt26 := 872) (tgt27 := 885) (tgt28 := 938) (tgt29 := 981) (tgt30 := 1024) (tgt31 := 1067) (tgt32 := 1090) (tgt33 := 1173) (dt := 1236) (by decide) (by decide) (by decide) (by decide) (by decide) (by decide) (by decide) (by decide) (by decide) (by decide) (by decide) (by decide) (by decide) (by decide) (by decide) (by decide) (by decide) (by decide) (by decide) (by decide) (by decide) (by decide) (by decide) (by decide) (by decide) (by decide) (by decide) (by decide) (by decide) (by decide) (by decide) (by decide) (by decide) (by decide) (by decide) (fun _ => lc_thing F J hX hbl hbA h6 hL S K) (fun _ => lc_of F J hX hbl hbA h6 hL S K) (fun _ => lc_felt F J hX hbl hbA h6 hL S K) (fun _ => lc_person F J hX hbl hbA h6 hL S K) (fun _ => lc_told F J hX hbl hbA h6 hL S K) (fun _ => lc_move F J hX hbl hbA h6 hL S K) (fun _ => lc_take F J hX hbl hbA h6 hL S K) (fun _ => lc_count F J hX hbl hbA h6 hL S K) (fun _ => lc_heed F J hX hbl hbA h6 hL S K) (fun _ => lc_well F J hX hbl hbA h6 hL S K) (fun _ => lc_type F J hX hbl hbA h6 hL S K) (fun _ => lc_road F J hX hbl hbA h6 hL S K) (fun _ => lc_go F J hX hbl hbA h6 hL S K) (fun _ => lc_undo F J hX hbl hbA h6 hL S K) (fun _ => lc_again F J hX hbl hbA h6 hL S K) (fun _ => lc_glad F J hX hbl hbA h6 hL S K) (fun _ => lc_home F J hX hbl hbA h6 hL S K) (fun _ => lc_lost F J hX hbl hbA h6 hL S K) (fun _ => lc_lurk F J hX hbl hbA h6 hL S K) (fun _ => lc_stand F J hX hbl hbA h6 hL S K) (fun _ => lc_sister F J hX hbl hbA h6 hL S K) (fun _ => lc_meet F J hX hbl hbA h6 hL S K) (fun _ => lc_first F J hX hbl hbA h6 hL S K) (fun _ => lc_cheated F J hX hbl hbA h6 hL S K) (fun _ => lc_chance F J hX hbl hbA h6 hL S K) (fun _ => lc_image F J hX hbl hbA h6 hL S K) (fun _ => lc_restore F J hX hbl hbA h6 hL S K) (fun _ => lc_seen F J hX hbl hbA h6 hL S K) (fun _ => lc_film F J hX hbl hbA h6 hL S K) (fun _ => lc_deal F J hX hbl hbA h6 hL S K) (fun _ => lc_sheet F J hX hbl hbA h6 hL S K) (fun _ => lc_drop F J hX hbl hbA h6 hL S K) (fun _ => lc_item F J hX hbl hbA h6 hL S K) (fun _ => lc_copy F J hX hbl hbA h6 hL S K) (fun _ _ _ _ _ _ _ _ _ _ _ _ _ _ _ _ _ _ _ _ _ _ _ _ _ _ _ _ _ _ _ _ _ _ => K _ S)
theorem law_body {w : zE} {g : zG} {b L : Nat} {xs : Nat → Int32} (F : zF w g RL cL_law 4 1000) (J : zJ w) (hL : L ≤ 3072) (hX : va_X b L xs g.2.1.1 g.2.1.1.heap) (hbl : b < g.2.1.1.heap.size) (hbA : ¬ g.2.2.2.1 b) (E : ∀ lv M, ZW w g 4 1242 lv [] M) : ZW w g 4 15 [some (.ref b), some (.ref (w.2.2 0)), none, none] [.ref (w.2.2 138)] M1 := by
  refine z_astore_n (lv' := [_, _, _, _]) F dL_law_15 (by decide) rfl rfl ?_
  refine z_iconst (v := 0) F dL_law_16 (by decide) ?_
  refine z_istore_n (lv' := [_, _, _, _]) F dL_law_17 (by decide) rfl rfl ?_
  exact law_loop F J hL hX hbl hbA E L 0 M1 (by omega) (by omega) sim_0
set_option maxHeartbeats 4000000 in
theorem whole_start {p : Program} {e : Env} {s : State} {m : MethodId} {below : List Frame} {meth : Method} {c : Code} (l : Launch) {b L : Nat} {xs : Nat → Int32} (hL : L ≤ 3072) (C0 : lw_At p s m meth c b L xs) : W p l e room_1 s m #[Value.ref b] below meth c s.heap [] 0 0 (lw_Z below #[Value.ref b] s) (entryFrame m ([Value.ref b] : List Value).toArray 4) := by
  obtain ⟨hx, hb, hr, hml, hown, hts, hX, hbl, hlocks, hgv⟩ := C0
  obtain ⟨D, cA, hK⟩ := st_K hts
  obtain ⟨a, b2, hT0⟩ := st_T hts hgv
  have hT := hT0 D cA
  have hXs := st_X hts
  have hw : ∀ q ∈ zTb, q.before #[Value.ref b] s = true := fun q hq => hts q (List.mem_filter.mp hq).1
  have hl := lv_entry [Value.ref b] (n := 4) (Nat.le_of_ble_eq_true rfl)
  rw [lg_entry_eq]
  have hbA : ¬ bA s.heap.size b := fun q => Nat.not_le.mpr hbl q
  have E : ∀ lv M, ZW (zw D cA s.heap.size a b2) ((p, l, e, room_1), (s, m, #[Value.ref b], below), (meth, c, 154, 1768), (bA s.heap.size, lw_Z below #[Value.ref b] s)) 4 1242 lv [] M := fun lv M => lw_end hx hb hr hlocks
  have F2 : zF (zw D cA s.heap.size a b2) ((p, l, e, room_1), (s, m, #[Value.ref b], below), (meth, c, 154, 1768), (bA s.heap.size, lw_Z below #[Value.ref b] s)) RL cL_law 4 1000 := ⟨hx, hb, hml, hown, hw, hlocks, hK, zw_J, fun i hi => zw_A hi, by show 1000 ≤ 2048; decide, by show 60 * 1000 ≤ 84000; decide, by show 154 ≤ 600000; decide, by show 1768 ≤ 7302250; decide, hT⟩
  have F : bF (zw D cA s.heap.size a b2) s.heap.size 0 ((p, l, e, room_1), (s, m, #[Value.ref b], below), (meth, c, 154, 1768), (bA s.heap.size, lw_Z below #[Value.ref b] s)) RL cL_law 4 1000 := ⟨hx, hb, hml, hown, hw, hlocks, hK, rfl, by show 1000 ≤ 2048; decide, by show 60 * 1000 ≤ 84000; decide, hXs⟩
  have Z : BW (zw D cA s.heap.size a b2) s.heap.size 0 ((p, l, e, room_1), (s, m, #[Value.ref b], below), (meth, c, 154, 1768), (bA s.heap.size, lw_Z below #[Value.ref b] s)) 4 0 [some (.ref b), none, none, none] [] (fun _ => .inr (0, [])) 0 0 := by
    refine b_new (ci := 7) (fs := [.null, .null, .int 0, .null, .null, .null]) (j := 0) F bc_L_7 bi_X7 bj_X7 izX7 tyX7 tyX7_ok rfl bd_X7 (by show 0 + 1 ≤ 600000; decide) (by show 0 + 6 ≤ 7302250; decide) rfl dL_law_0 ?_
    refine b_dup F dL_law_3 rfl ?_
    refine b_callI F (c_X7_init l (zw D cA s.heap.size a b2) s.heap.size 0 _ (va_up_self _ _ _)) rfl zm_X7_init bm_X7 rfl bl_L_9 (Nat.le_of_ble_eq_true rfl) dL_law_4 (by decide) (by show 1 + 137 ≤ 600000; decide) (by show 6 + 1061 ≤ 7302250; decide) ?_
    refine b_astore (lv' := [_, _, _, _]) F dL_law_7 (by decide) rfl rfl ?_
    refine b_new (ci := 8) (fs := d8L) (j := 138) F bc_L_10 bi_X8 bj_X8 izX8 tyX8 tyX8_ok rfl bd_X8 (by show 138 + 1 ≤ 600000; decide) (by show 1067 + 30 ≤ 7302250; decide) rfl dL_law_8 ?_
    refine b_dup F dL_law_11 rfl ?_
    exact b_call8 (sl := 1097) F hT bl_L_12 (Nat.le_of_ble_eq_true rfl) dL_law_12 (by decide) (by show 139 + 15 ≤ 600000; decide) (by show 1097 + 671 ≤ 7302250; decide) (fun H1 locs1 ls hl hP hS => law_body F2 zw_J hL hX hbl hbA E H1 locs1 ls hl hP hS)
  exact Z s.heap [] _ hl (fun k hk => absurd hk (by omega)) va_S.rf
end
