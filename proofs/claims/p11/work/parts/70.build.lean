/-! BUILDING: from sz on the heap is made cell by cell: cell k, at sz + k, holds f k; n0 of them at the method's begin, cs made since -/
def bP (w : zE) (sz n : Nat) (f : Nat → va_E) (H : Heap) : Prop := ∀ k, k < n → va_at w.1 vwCl (sz + k, f k) H
def bA (sz : Nat) (q : Nat) : Prop := sz ≤ q
def bX (U : State) : Prop := (va_AO RX4 U ∧ va_AO RX5 U ∧ va_AO RX2 U) ∧ va_Nw (.methodLinkNest RX1 31 yX4_init RX7) U ∧ va_Nw (.methodLinkNest RX6 20 yX5_init RX7) U ∧ va_Nw (.methodLinkNest RX7 21 yX3_init RX7) U ∧ va_Nw (.methodLinkNest RX3 24 yX5_init RX7) U ∧ va_Nw (.methodLinkNest RX0 20 yX5_init RX7) U ∧ va_Nw (.methodLinkNest RX7 39 yX2_init RX7) U
theorem bX.warm {s U : State} (hW : s.WarmedH U.vm) (h : bX s) : bX U := ⟨⟨h.1.1.moved hW.alike, h.1.2.1.moved hW.alike, h.1.2.2.moved hW.alike⟩, h.2.1.warmM hW, h.2.2.1.warmM hW, h.2.2.2.1.warmM hW, h.2.2.2.2.1.warmM hW, h.2.2.2.2.2.1.warmM hW, h.2.2.2.2.2.2.warmM hW⟩
theorem bX.same {u U : State} (e : u.vm = U.vm) (h : bX u) : bX U := by
  have hv : u.vm.Alike U.vm := e ▸ Vm.Alike.refl u.vm
  exact ⟨⟨h.1.1.moved hv, h.1.2.1.moved hv, h.1.2.2.moved hv⟩, h.2.1.same rfl e, h.2.2.1.same rfl e, h.2.2.2.1.same rfl e, h.2.2.2.2.1.same rfl e, h.2.2.2.2.2.1.same rfl e, h.2.2.2.2.2.2.same rfl e⟩
def bL (sz n : Nat) (f : Nat → va_E) : va_W := (List.range n).map (fun k => (sz + k, f k))
theorem bL_len {sz n : Nat} {f : Nat → va_E} : (bL sz n f).length = n := by unfold bL; rw [List.length_map, List.length_range]
theorem bL_at {sz n k : Nat} {f : Nat → va_E} (h : k < n) : (bL sz n f)[k]? = some (sz + k, f k) := by
  unfold bL
  rw [List.getElem?_map, List.getElem?_range h]
  rfl
theorem bL_inv {sz n k : Nat} {f : Nat → va_E} {q : Nat × va_E} (h : (bL sz n f)[k]? = some q) : k < n ∧ q = (sz + k, f k) := by
  have hk : k < n := by
    have h1 := (List.getElem?_eq_some_iff.mp h).1
    rwa [bL_len] at h1
  rw [bL_at hk] at h
  exact ⟨hk, (Option.some.inj h).symm⟩
theorem bP.P {w : zE} {sz n : Nat} {f : Nat → va_E} {H : Heap} (h : bP w sz n f H) : va_P w.1 vwCl (bL sz n f) H := by
  intro k q hk
  obtain ⟨h1, rfl⟩ := bL_inv hk
  exact h k h1
theorem bP.of {w : zE} {sz n : Nat} {f : Nat → va_E} {H : Heap} (h : va_P w.1 vwCl (bL sz n f) H) : bP w sz n f H := fun k hk => h k _ (bL_at hk)
theorem bL_D {sz n : Nat} {f : Nat → va_E} : va_D (bA sz) (bL sz n f) := by
  refine ⟨fun i j p q hi hj e => ?_, fun k q hk => ?_⟩
  · obtain ⟨h1, rfl⟩ := bL_inv hi
    obtain ⟨h2, rfl⟩ := bL_inv hj
    have e : sz + i = sz + j := e
    omega
  · obtain ⟨h1, rfl⟩ := bL_inv hk
    exact Nat.le_add_right _ _
theorem bP.set {w : zE} {sz n i : Nat} {f : Nat → va_E} {e : va_E} {H : Heap} (hi : i < n) (h : va_P w.1 vwCl ((bL sz n f).set i (sz + i, e)) H) : bP w sz n (va_up f i e) H := by
  intro k hk
  by_cases hki : k = i
  · subst hki
    rw [va_up_self]
    exact h k _ (List.getElem?_set_self (by rw [bL_len]; exact hi))
  · rw [va_up_ne _ _ hki]
    exact h k _ (by rw [List.getElem?_set_ne (Ne.symm hki)]; exact bL_at hk)
theorem bP.ext {w : zE} {sz n : Nat} {f f' : Nat → va_E} {H : Heap} (h : bP w sz n f H) (e : ∀ k, k < n → f k = f' k) : bP w sz n f' H := fun k hk => (e k hk) ▸ h k hk
/-- the new cell stands at the heap's end -/
theorem bP.push {w : zE} {sz n q : Nat} {f : Nat → va_E} {e : va_E} {H : Heap} (h : va_P w.1 vwCl (bL sz n f ++ [(q, e)]) H) (hD : va_D (bA sz) (bL sz n f ++ [(q, e)])) (hz : H.size ≤ sz + (n + 1)) : q = sz + n ∧ bP w sz (n + 1) (va_up f n e) H := by
  have hl : (bL sz n f ++ [(q, e)])[n]? = some (q, e) := by
    rw [List.getElem?_append_right (by rw [bL_len]; exact Nat.le_refl _), bL_len, Nat.sub_self]
    rfl
  have ho : ∀ k, k < n → (bL sz n f ++ [(q, e)])[k]? = some (sz + k, f k) := fun k hk => by
    rw [List.getElem?_append_left (by rw [bL_len]; exact hk)]
    exact bL_at hk
  have hq : q < H.size := (h n _ hl).lt
  have hA : sz ≤ q := hD.2 n _ hl
  have hqn : q = sz + n := by
    rcases Nat.lt_or_ge (q - sz) n with z | z
    · have z1 := hD.1 (q - sz) n _ _ (ho _ z) hl (by show sz + (q - sz) = q; omega)
      omega
    · omega
  subst hqn
  refine ⟨rfl, fun k hk => ?_⟩
  by_cases hkn : k = n
  · subst hkn
    rw [va_up_self]
    exact h k _ hl
  · rw [va_up_ne _ _ hkn]
    exact h k _ (ho k (by omega))
def BW (w : zE) (sz n0 : Nat) (g : zG) (nL pc : Nat) (lv : List (Option Value)) (st : List Value) (f : Nat → va_E) (cs sl : Nat) : Prop :=
  ∀ (H : Heap) (locs : List Loc) (ls : Array Slot), lv_has ls nL (zL 0 lv) → bP w sz (n0 + cs) f H → va_S (bA sz) g.2.1.1.heap H locs → W g.1.1 g.1.2.1 g.1.2.2.1 g.1.2.2.2 g.2.1.1 g.2.1.2.1 g.2.1.2.2.1 g.2.1.2.2.2 g.2.2.1.1 g.2.2.1.2.1 H locs cs sl g.2.2.2.2 (F0 g.2.1.2.1 pc ls st)
def bF (w : zE) (sz n0 : Nat) (g : zG) (own : String) (cc : ByteArray) (nL D : Nat) : Prop :=
  g.1.1.tables.exec = Jvm.exec ∧ g.2.2.1.2.1.code = cc ∧ g.2.2.1.2.1.maxLocals = nL ∧ g.2.1.1.vm.findClass own = some g.2.1.2.1.cls ∧ (∀ c ∈ zTb, c.before g.2.1.2.2.1 g.2.1.1 = true) ∧ g.2.2.1.1.locks = false ∧ va_K w.1 vwCl (zT w) g.2.1.1 ∧ g.2.1.1.heap.size = sz + n0 ∧ D ≤ g.1.2.2.2.frames ∧ 60 * D ≤ g.1.2.2.2.locals ∧ bX g.2.1.1
section BR
variable {w : zE} {sz n0 : Nat} {g : zG} {own : String} {cc : ByteArray} {nL D pc cs sl : Nat} {lv lv' : List (Option Value)} {st : List Value} {f : Nat → va_E}
/-- how large the heap is -/
theorem b_size {p : Program} {l : Launch} {e : Env} {R : Room} {s : State} {m : MethodId} {args : Array Value} {below : List Frame} {meth : Method} {c : Code} {H : Heap} {locs : List Loc} {cells slots : Nat} {Q : State → Prop} {g : JFrame} (k : H.size ≤ s.heap.size + cells → W p l e R s m args below meth c H locs cells slots Q g) : W p l e R s m args below meth c H locs cells slots Q g := fun T hT X => k (hT ▸ X.same.2.2.1) T hT X
theorem b_iconst {n : Int} {v : Int32} (F : bF w sz n0 g own cc nL D) (hd : decode cc pc = .ok (.iconst n, 1)) (hv : Int32.ofInt n = v) (k : BW w sz n0 g nL (pc + 1) lv (.int v :: st) f cs sl) : BW w sz n0 g nL pc lv st f cs sl := fun H locs ls hl hP hS => lv_iconst F.1 F.2.1 hd hv (k H locs ls hl hP hS)
theorem b_bipush {n : Int} {v : Int32} (F : bF w sz n0 g own cc nL D) (hd : decode cc pc = .ok (.bipush n, 2)) (hv : (Int8.ofInt n).toInt32 = v) (k : BW w sz n0 g nL (pc + 2) lv (.int v :: st) f cs sl) : BW w sz n0 g nL pc lv st f cs sl := fun H locs ls hl hP hS => lv_bipush F.1 F.2.1 hd hv (k H locs ls hl hP hS)
theorem b_sipush {n : Int} {v : Int32} (F : bF w sz n0 g own cc nL D) (hd : decode cc pc = .ok (.sipush n, 3)) (hv : (Int16.ofInt n).toInt32 = v) (k : BW w sz n0 g nL (pc + 3) lv (.int v :: st) f cs sl) : BW w sz n0 g nL pc lv st f cs sl := fun H locs ls hl hP hS => lv_sipush F.1 F.2.1 hd hv (k H locs ls hl hP hS)
theorem b_iload {n : Fin 4} {x : Int32} (F : bF w sz n0 g own cc nL D) (hd : decode cc pc = .ok (.iload_n n, 1)) (hv : lv[(n : Nat)]? = some (some (.int x))) (k : BW w sz n0 g nL (pc + 1) lv (.int x :: st) f cs sl) : BW w sz n0 g nL pc lv st f cs sl := fun H locs ls hl hP hS => lv_iload_n F.1 F.2.1 hd rfl (zL_at hl hv) (k H locs ls hl hP hS)
theorem b_aload {n : Fin 4} {x : Nat} (F : bF w sz n0 g own cc nL D) (hd : decode cc pc = .ok (.aload_n n, 1)) (hv : lv[(n : Nat)]? = some (some (.ref x))) (k : BW w sz n0 g nL (pc + 1) lv (.ref x :: st) f cs sl) : BW w sz n0 g nL pc lv st f cs sl := fun H locs ls hl hP hS => lv_aload_n F.1 F.2.1 hd rfl (zL_at hl hv) (k H locs ls hl hP hS)
theorem b_istore {n : Fin 4} {x : Int32} (F : bF w sz n0 g own cc nL D) (hd : decode cc pc = .ok (.istore_n n, 1)) (hn : (n : Nat) < nL) (hok : zok lv (n : Nat) = true) (he : lv.set (n : Nat) (some (.int x)) = lv') (k : BW w sz n0 g nL (pc + 1) lv' st f cs sl) : BW w sz n0 g nL pc lv (.int x :: st) f cs sl := fun H locs ls hl hP hS => lv_istore_n F.1 F.2.1 hd rfl hl hn rfl (fun ls2 hl2 => k H locs ls2 (he ▸ zL_less hl2 (zL_set hok)) hP hS)
theorem b_astore {n : Fin 4} {x : Nat} (F : bF w sz n0 g own cc nL D) (hd : decode cc pc = .ok (.astore_n n, 1)) (hn : (n : Nat) < nL) (hok : zok lv (n : Nat) = true) (he : lv.set (n : Nat) (some (.ref x)) = lv') (k : BW w sz n0 g nL (pc + 1) lv' st f cs sl) : BW w sz n0 g nL pc lv (.ref x :: st) f cs sl := fun H locs ls hl hP hS => lv_astore_n F.1 F.2.1 hd rfl hl hn rfl (fun ls2 hl2 => k H locs ls2 (he ▸ zL_less hl2 (zL_set hok)) hP hS)
theorem b_iinc {n : Nat} {j : Int} {x v : Int32} (F : bF w sz n0 g own cc nL D) (hd : decode cc pc = .ok (.iinc n j, 3)) (hv : lv[n]? = some (some (.int x))) (hj : x + Int32.ofInt j = v) (hn : n < nL) (hok : zok lv n = true) (he : lv.set n (some (.int v)) = lv') (k : BW w sz n0 g nL (pc + 3) lv' st f cs sl) : BW w sz n0 g nL pc lv st f cs sl := fun H locs ls hl hP hS => by
  obtain ⟨q, hq⟩ := List.getElem?_of_mem ((zL_mem lv 0 n _).mpr ⟨Nat.zero_le _, hv⟩)
  exact lv_iinc F.1 F.2.1 hd hl hq hj hn rfl (fun ls2 hl2 => k H locs ls2 (he ▸ zL_less hl2 (zL_set hok)) hP hS)
theorem b_dup {v : Value} (F : bF w sz n0 g own cc nL D) (hd : decode cc pc = .ok (.dup, 1)) (hc : v.category = 1) (k : BW w sz n0 g nL (pc + 1) lv (v :: v :: st) f cs sl) : BW w sz n0 g nL pc lv (v :: st) f cs sl := fun H locs ls hl hP hS => lv_dup F.1 F.2.1 hd hc (k H locs ls hl hP hS)
theorem b_ge {x y : Int32} {off : Int} {tgt : Nat} (F : bF w sz n0 g own cc nL D) (hd : decode cc pc = .ok (.if_icmp .ge off, 3)) (ht : (pc : Int) + off = (tgt : Int)) (kt : y ≤ x → BW w sz n0 g nL tgt lv st f cs sl) (kf : x < y → BW w sz n0 g nL (pc + 3) lv st f cs sl) : BW w sz n0 g nL pc lv (.int y :: .int x :: st) f cs sl := fun H locs ls hl hP hS => lv_icmp_ge F.1 F.2.1 hd ht (fun q => kt q H locs ls hl hP hS) (fun q => kf (Int32.not_le.mp q) H locs ls hl hP hS)
theorem b_goto {off : Int} {tgt : Nat} (F : bF w sz n0 g own cc nL D) (hd : decode cc pc = .ok (.goto off, 3)) (ht : (pc : Int) + off = (tgt : Int)) (k : BW w sz n0 g nL tgt lv st f cs sl) : BW w sz n0 g nL pc lv st f cs sl := fun H locs ls hl hP hS => lv_goto F.1 F.2.1 hd ht (k H locs ls hl hP hS)
theorem b_obj {a idx : Nat} (F : bF w sz n0 g own cc nL D) (hl : Cond.methodLink own idx Lib.objectInit ∈ zTb) (h2 : Cond.instanceMethod Lib.objectInit ∈ zTb) (h3 : Cond.code Lib.objectInit ⟨#[0xb1]⟩ 1 none ∈ zTb) (hd : decode cc pc = .ok (.invokespecial idx, 3)) (hD : 1 ≤ D) (k : BW w sz n0 g nL (pc + 3) lv [] f cs sl) : BW w sz n0 g nL pc lv [.ref a] f cs sl := fun H locs ls hl1 hP hS => by
  have f1 := F.2.2.2.2.2.2.2.2.1
  have f2 := F.2.2.2.2.2.2.2.2.2.1
  refine W.objInit F.1 F.2.1 F.2.2.2.1 (F.2.2.2.2.1 _ hl) (F.2.2.2.2.1 _ h2) (F.2.2.2.2.1 _ h3) rfl (by rw [F.2.2.1]; exact hl1.1) rfl hd (by omega) ?_ ?_
  · show 2 * 0 + 0 + 12 ≤ _
    omega
  · exact W.eq (g2 := F0 g.2.1.2.1 (pc + 3) ls []) rfl (k H locs ls hl1 hP hS)
theorem b_new {C : String} {T : u_T} {N ci idx j : Nat} {fs : List Value} (F : bF w sz n0 g own cc nL D) (hcl : Cond.classLink own idx C ∈ zTb) (hinst : Cond.instantiable C N ∈ zTb) (hini : Cond.initialized C ∈ zTb) (hin : ∀ c ∈ u_ws C T N, c ∈ zTb) (ty : Nat → FieldType) (hty : ∀ k, k < N → parseFieldDescriptor (T k).2.2.1 = some (ty k)) (hc : vwCl[ci]? = some (C, T, N)) (hfs : ∀ j, j < N → defaultValue (ty j) = vp_V fs j) (hcells : cs + 1 ≤ g.1.2.2.2.cells) (hslots : sl + N ≤ g.1.2.2.2.slots) (hj : n0 + cs = j) (hd : decode cc pc = .ok (.new idx, 3)) (k : BW w sz n0 g nL (pc + 3) lv (.ref (sz + j) :: st) (va_up f j (.inr (ci, fs))) (cs + 1) (sl + N)) : BW w sz n0 g nL pc lv st f cs sl := fun H locs ls hl hP hS =>
  va_new F.1 F.2.1 F.2.2.2.2.1 hin ty hty F.2.2.2.1 (F.2.2.2.2.1 _ hcl) (F.2.2.2.2.1 _ hinst) (F.2.2.2.2.1 _ hini) F.2.2.2.2.2.2.1 hP.P bL_D hS (fun q h => by have := F.2.2.2.2.2.2.2.1; show sz ≤ q; omega) hc hfs hcells hslots hd (fun q H1 hP1 hD1 hS1 => b_size fun hz => by
    obtain ⟨rfl, hP2⟩ := bP.push hP1 hD1 (by have := F.2.2.2.2.2.2.2.1; omega)
    subst hj
    exact k H1 locs ls hl hP2 hS1)
theorem b_newa {atype : ArrayType} {ty : FieldType} {a0 : vp_A} {N' t0 j : Nat} {cA : ClassId} {n : Int32} (F : bF w sz n0 g own cc nL D) (harr : Cond.arrayClass (newarray.typeOf atype) ∈ zTb) (hty : newarray.typeOf atype = ty) (hprim : va_RA g.2.1.1 cA ty → g.2.1.1.vm.findClass ("[" ++ ty.toString) = some cA) (hpr2 : ∀ cB, va_RA g.2.1.1 cB ty → g.2.1.1.vm.findClass ("[" ++ ty.toString) = some cB) (ht : (zT w)[t0]? = some (cA, ty)) (ha : ∀ cA : ClassId, vp_cell cA a0 = arrV cA N' (fun _ => defaultValue ty)) (hn : ¬ n < 0) (hN : n.toNatClampNeg = N') (hbytes : N' * componentBytes ty ≤ 536870912) (hcells : cs + 1 ≤ g.1.2.2.2.cells) (hslots : sl + N' ≤ g.1.2.2.2.slots) (hj : n0 + cs = j) (hd : decode cc pc = .ok (.newarray atype, 2)) (k : BW w sz n0 g nL (pc + 2) lv (.ref (sz + j) :: st) (va_up f j (.inl (cA, a0))) (cs + 1) (sl + N')) : BW w sz n0 g nL pc lv (.int n :: st) f cs sl := fun H locs ls hl hP hS =>
  va_newa F.1 F.2.1 (F.2.2.2.2.1 _ harr) hty F.2.2.2.2.2.2.1 hP.P bL_D hS (fun q h => by have := F.2.2.2.2.2.2.2.1; show sz ≤ q; omega) ha hn hN hbytes hcells hslots hd (fun q cB H1 hK1 hP1 hD1 hS1 => b_size fun hz => by
    have e1 := hprim (F.2.2.2.2.2.2.1.2 t0 _ ht).2
    have e2 := hpr2 cB (hK1.2 (zT w).length (cB, ty) (by rw [List.getElem?_append_right (Nat.le_refl _), Nat.sub_self]; rfl)).2
    have e3 : cB = cA := Option.some.inj (e2.symm.trans e1)
    subst e3
    obtain ⟨rfl, hP2⟩ := bP.push hP1 hD1 (by have := F.2.2.2.2.2.2.2.1; omega)
    subst hj
    exact k H1 locs ls hl hP2 hS1)
theorem b_newq {C : String} {N' t0 idx j : Nat} {cA : ClassId} {n : Int32} (F : bF w sz n0 g own cc nL D) (hcl : Cond.classLink own idx C ∈ zTb) (hover : va_AO C g.2.1.1) (ht : (zT w)[t0]? = some (cA, .object C)) (hn : ¬ n < 0) (hN : n.toNatClampNeg = N') (hbytes : N' * 4 ≤ 536870912) (hcells : cs + 1 ≤ g.1.2.2.2.cells) (hslots : sl + N' ≤ g.1.2.2.2.slots) (hj : n0 + cs = j) (hd : decode cc pc = .ok (.anewarray idx, 3)) (k : BW w sz n0 g nL (pc + 3) lv (.ref (sz + j) :: st) (va_up f j (.inl (cA, N', .inr (.inr (.inr (.inr (fun _ => none))))))) (cs + 1) (sl + N')) : BW w sz n0 g nL pc lv (.int n :: st) f cs sl := fun H locs ls hl hP hS =>
  va_newq F.1 F.2.1 F.2.2.2.1 (F.2.2.2.2.1 _ hcl) hover F.2.2.2.2.2.2.1 hP.P bL_D hS (fun q h => by have := F.2.2.2.2.2.2.2.1; show sz ≤ q; omega) hn hN hbytes hcells hslots hd (fun q cB H1 hK1 hP1 hD1 hS1 => b_size fun hz => by
    obtain ⟨-, -, -, -, -, e1⟩ := (F.2.2.2.2.2.2.1.2 t0 _ ht).2
    obtain ⟨-, -, -, -, -, e2⟩ := (hK1.2 (zT w).length (cB, .object C) (by rw [List.getElem?_append_right (Nat.le_refl _), Nat.sub_self]; rfl)).2
    have e3 : cB = cA := Option.some.inj (e2.symm.trans e1)
    subst e3
    obtain ⟨rfl, hP2⟩ := bP.push hP1 hD1 (by have := F.2.2.2.2.2.2.2.1; omega)
    subst hj
    exact k H1 locs ls hl hP2 hS1)
theorem b_get {C : String} {T : u_T} {N ci i idx j : Nat} {fs : List Value} {v : Value} (F : bF w sz n0 g own cc nL D) (hi : i < n0 + cs) (he : f i = .inr (ci, fs)) (hc : vwCl[ci]? = some (C, T, N)) (hin : ∀ c ∈ u_ws C T N, c ∈ zTb) (hj : j < N) (hdec : (T j).1 = C) (hl : Cond.fieldLink own idx C (T j).2.1 (T j).2.2.1 ∈ zTb) (hv : fs[j]? = some v) (hd : decode cc pc = .ok (.getfield idx, 3)) (k : BW w sz n0 g nL (pc + 3) lv (v :: st) f cs sl) : BW w sz n0 g nL pc lv (.ref (sz + i) :: st) f cs sl := fun H locs ls hl1 hP hS =>
  va_get F.1 F.2.1 F.2.2.2.2.1 hin F.2.2.2.1 F.2.2.2.2.2.2.1 hP.P i (by rw [bL_at hi, he]) hc j hj (F.2.2.2.2.1 _ hl) (fun _ h => by rw [hdec] at h; exact h) hv hd (k H locs ls hl1 hP hS)
theorem b_put {C : String} {T : u_T} {N ci i idx j : Nat} {fs : List Value} {v : Value} {ty : FieldType} {ty0 : Nat → FieldType} (F : bF w sz n0 g own cc nL D) (hi : i < n0 + cs) (he : f i = .inr (ci, fs)) (hc : vwCl[ci]? = some (C, T, N)) (hin : ∀ c ∈ u_ws C T N, c ∈ zTb) (hty : ∀ k, k < N → parseFieldDescriptor (T k).2.2.1 = some (ty0 k)) (hnm : ∀ a, a < N → ∀ b, b < N → a ≠ b → (T a).2.1 ≠ (T b).2.1) (hj : j < N) (hdec : (T j).1 = C) (hfin : (T j).2.2.2 = false) (hl : Cond.fieldLink own idx C (T j).2.1 (T j).2.2.1 ∈ zTb) (hd2 : ty0 j = ty) (hn : narrow ty v = v) (hfit : fits ty v = true) (hlen : j < fs.length) (hd : decode cc pc = .ok (.putfield idx, 3)) (k : BW w sz n0 g nL (pc + 3) lv st (va_up f i (.inr (ci, fs.set j v))) cs sl) : BW w sz n0 g nL pc lv (v :: .ref (sz + i) :: st) f cs sl := fun H locs ls hl1 hP hS =>
  va_put F.1 F.2.1 F.2.2.2.2.1 hin ty0 hty hnm F.2.2.2.1 F.2.2.2.2.2.2.1 hP.P bL_D hS i (by rw [bL_at hi, he]) hc j hj (F.2.2.2.2.1 _ hl) (fun _ h => by rw [hdec] at h; exact h) hfin (hd2 ▸ hty j hj) hn hfit hlen hd (fun H1 locs1 hP1 _ hS1 => k H1 locs1 ls hl1 (bP.set hi hP1) hS1)
theorem b_putF {C : String} {T : u_T} {N ci i idx j : Nat} {fs : List Value} {v : Value} {ty : FieldType} {ty0 : Nat → FieldType} (F : bF w sz n0 g C cc nL D) (hI : g.2.2.1.1.name = "<init>") (hi : i < n0 + cs) (he : f i = .inr (ci, fs)) (hc : vwCl[ci]? = some (C, T, N)) (hin : ∀ c ∈ u_ws C T N, c ∈ zTb) (hty : ∀ k, k < N → parseFieldDescriptor (T k).2.2.1 = some (ty0 k)) (hnm : ∀ a, a < N → ∀ b, b < N → a ≠ b → (T a).2.1 ≠ (T b).2.1) (hj : j < N) (hdec : (T j).1 = C) (hfin : (T j).2.2.2 = true) (hl : Cond.fieldLink C idx C (T j).2.1 (T j).2.2.1 ∈ zTb) (hd2 : ty0 j = ty) (hn : narrow ty v = v) (hfit : fits ty v = true) (hlen : j < fs.length) (hd : decode cc pc = .ok (.putfield idx, 3)) (k : BW w sz n0 g nL (pc + 3) lv st (va_up f i (.inr (ci, fs.set j v))) cs sl) : BW w sz n0 g nL pc lv (v :: .ref (sz + i) :: st) f cs sl := fun H locs ls hl1 hP hS =>
  va_putF F.1 F.2.1 F.2.2.2.2.1 hin ty0 hty hnm F.2.2.2.1 F.2.2.2.2.2.2.1 hP.P bL_D hS i (by rw [bL_at hi, he]) hc j hj (F.2.2.2.2.1 _ hl) (fun _ h => by rw [hdec] at h; exact h) hfin hI hdec (hd2 ▸ hty j hj) hn hfit hlen hd (fun H1 locs1 hP1 _ hS1 => k H1 locs1 ls hl1 (bP.set hi hP1) hS1)
theorem b_alen {i t0 : Nat} {cA : ClassId} {x : vp_A} {ty : FieldType} {v : Int32} (F : bF w sz n0 g own cc nL D) (hi : i < n0 + cs) (he : f i = .inl (cA, x)) (ht : (zT w)[t0]? = some (cA, ty)) (hv : Int32.ofNat x.1 = v) (hd : decode cc pc = .ok (.arraylength, 1)) (k : BW w sz n0 g nL (pc + 1) lv (.int v :: st) f cs sl) : BW w sz n0 g nL pc lv (.ref (sz + i) :: st) f cs sl := fun H locs ls hl1 hP hS =>
  va_alen F.1 F.2.1 F.2.2.2.2.2.2.1 hP.P i t0 (by rw [bL_at hi, he]) ht hv hd (k H locs ls hl1 hP hS)
theorem b_astq {i v t0 ci N : Nat} {cA : ClassId} {r : vw_C} {vs : List Value} {fr : Nat → Option Nat} {x : Int32} (F : bF w sz n0 g own cc nL D) (hi : i < n0 + cs) (he : f i = .inl (cA, N, .inr (.inr (.inr (.inr fr))))) (ht : (zT w)[t0]? = some (cA, .object r.1)) (hv : v < n0 + cs) (hve : f v = .inr (ci, vs)) (hc : vwCl[ci]? = some r) (hin : vp_in x N) (hd : decode cc pc = .ok (.aastore, 1)) (k : BW w sz n0 g nL (pc + 1) lv st (va_up f i (.inl (cA, N, .inr (.inr (.inr (.inr (va_up fr x.toNatClampNeg (some (sz + v))))))))) cs sl) : BW w sz n0 g nL pc lv (.ref (sz + v) :: .int x :: .ref (sz + i) :: st) f cs sl := fun H locs ls hl1 hP hS =>
  va_astq F.1 F.2.1 F.2.2.2.2.2.2.1 hP.P bL_D hS i t0 v ci (by rw [bL_at hi, he]) ht (by rw [bL_at hv, hve]) hc hin hd (fun H1 locs1 hP1 _ hS1 => k H1 locs1 ls hl1 (bP.set hi hP1) hS1)
theorem b_ext {f' : Nat → va_E} (e : ∀ k, k < n0 + cs → f k = f' k) (k : BW w sz n0 g nL pc lv st f' cs sl) : BW w sz n0 g nL pc lv st f cs sl := fun H locs ls hl hP hS => k H locs ls hl (hP.ext e) hS
def bR (d mc ms : Nat) : Room := { frames := d, cells := mc, slots := ms, locals := 60 * d }
def bPre (w : zE) (sz : Nat) (args : List Value) (n : Nat) (f : Nat → va_E) : Array Value → State → Prop := va_Pc args (fun U => U.heap.size = sz + n ∧ bP w sz n f U.heap ∧ va_K w.1 vwCl (zT w) U ∧ bX U)
def bQ (w : zE) (sz n : Nat) (f : Nat → va_E) : Array Value → State → Outcome → State → Prop := va_Qv (S := Unit) (fun _ => True) (fun _ t => bP w sz n f t.heap) (bA sz)
def bC (l : Launch) (w : zE) (sz : Nat) (y : MethodName) (bytes : ByteArray) (maxL d : Nat) (args : List Value) (n : Nat) (f : Nat → va_E) (mc ms : Nat) (f' : Nat → va_E) : Prop := Met l y (.code y bytes maxL none :: zTb) (bR d mc ms) (bPre w sz args n f) (bQ w sz (n + mc) f') mc ms (bA sz)
theorem bPre_blind {args : List Value} {n : Nat} : FrameBlind (bPre w sz args n f) := fun a U g mk q => by
  obtain ⟨q0, q1, q2, q3, q4⟩ := q
  exact ⟨q0, q1, q2, va_K.moved (Vm.Alike.refl U.vm) q3, q4.same rfl⟩
theorem b_cells (F : bF w sz n0 g own cc nL D) {H : Heap} (hP : bP w sz (n0 + cs) f H) (h0 : g.2.1.1.heap.size ≤ H.size) (hz : H.size ≤ g.2.1.1.heap.size + cs) : H.size = sz + (n0 + cs) := by
  have h1 := F.2.2.2.2.2.2.2.1
  rcases Nat.eq_zero_or_pos cs with z | z
  · omega
  · have := (hP (n0 + cs - 1) (by omega)).lt
    have this : sz + (n0 + cs - 1) < H.size := this
    omega
theorem b_callI {y : MethodName} {bytes : ByteArray} {maxL d idx a mc ms n : Nat} {f' : Nat → va_E} {rest : List Value} (F : bF w sz n0 g own cc nL D) (hC : bC g.1.2.1 w sz y bytes maxL d [.ref a] n f mc ms f') (hn : n0 + cs = n) (hm : zMe y bytes maxL none 0) (hi : Cond.instanceMethod y ∈ zTb) (hy : y.name = "<init>") (hl : Cond.methodLink own idx y ∈ zTb) (hcat : (rest.map fun v => v.category).sum ≤ 8) (hd : decode cc pc = .ok (.invokespecial idx, 3)) (hD : d + 1 ≤ D) (h1 : cs + mc ≤ g.1.2.2.2.cells) (h2 : sl + ms ≤ g.1.2.2.2.slots) (k : BW w sz n0 g nL (pc + 3) lv rest f' (cs + mc) (sl + ms)) : BW w sz n0 g nL pc lv (.ref a :: rest) f cs sl := fun H locs ls hl1 hP hS => b_size fun hz => by
  subst hn
  have f1 := F.2.2.2.2.2.2.2.2.1
  have f2 := F.2.2.2.2.2.2.2.2.2.1
  have hzz := b_cells F hP hS.1 hz
  have h5 := hm.2.2.2.2
  exact va_callv (va_runI (As := []) (rest := rest) ⟨F.1, F.2.1, F.2.2.1, F.2.2.2.1, F.2.2.2.2.1⟩ hC (cwI 0 F.2.2.2.2.1 (zGood hm) rfl rfl rfl (F.2.2.2.2.1 _ hm.2.2.1) (F.2.2.2.2.1 _ hl) (F.2.2.2.2.1 _ hi) hy hm.2.2.2.1 ⟨by show d + 1 ≤ _; omega, by show 8 + (maxL + 11) + 60 * d ≤ _; omega⟩) ⟨bPre_blind, fun U hU hW => ⟨rfl, by rw [hU]; exact hzz, by rw [hU]; exact hP, va_K.moved hW.alike F.2.2.2.2.2.2.1, bX.warm hW F.2.2.2.2.2.2.2.2.2.2⟩⟩ rfl rfl hl1.1 rfl (lv_room hcat) hd ⟨h1, h2⟩) hS (fun q _ h => h) (fun q h => h) (fun u t H1 locs1 ht hvm hw hB hz1 hk1 hS1 => k H1 locs1 ls hl1 (by rw [← Nat.add_assoc]; exact ht ▸ hB) hS1)
theorem b_callN {y : MethodName} {bytes : ByteArray} {maxL d idx a mc ms n : Nat} {host : String} {f' : Nat → va_E} {rest : List Value} (F : bF w sz n0 g own cc nL D) (hC : bC g.1.2.1 w sz y bytes maxL d [.ref a] n f mc ms f') (hn : n0 + cs = n) (hm : zMe y bytes maxL none 0) (hi : Cond.instanceMethod y ∈ zTb) (hy : y.name = "<init>") (hl : va_Nw (.methodLinkNest own idx y host) g.2.1.1) (hcat : (rest.map fun v => v.category).sum ≤ 8) (hd : decode cc pc = .ok (.invokespecial idx, 3)) (hD : d + 1 ≤ D) (h1 : cs + mc ≤ g.1.2.2.2.cells) (h2 : sl + ms ≤ g.1.2.2.2.slots) (k : BW w sz n0 g nL (pc + 3) lv rest f' (cs + mc) (sl + ms)) : BW w sz n0 g nL pc lv (.ref a :: rest) f cs sl := fun H locs ls hl1 hP hS => b_size fun hz => by
  subst hn
  have f1 := F.2.2.2.2.2.2.2.2.1
  have f2 := F.2.2.2.2.2.2.2.2.2.1
  have hzz := b_cells F hP hS.1 hz
  have h5 := hm.2.2.2.2
  exact va_callv (va_runIN (As := []) (rest := rest) ⟨F.1, F.2.1, F.2.2.1, F.2.2.2.1, F.2.2.2.2.1⟩ hC ⟨va_cnB 0 F.2.2.2.2.1 (zGood hm) rfl rfl rfl hl (F.2.2.2.2.1 _ hm.2.2.1) hm.2.2.2.1 ⟨by show d + 1 ≤ _; omega, by show 8 + (maxL + 11) + 60 * d ≤ _; omega⟩, hy, F.2.2.2.2.1 _ hi⟩ ⟨bPre_blind, fun U hU hW => ⟨rfl, by rw [hU]; exact hzz, by rw [hU]; exact hP, va_K.moved hW.alike F.2.2.2.2.2.2.1, bX.warm hW F.2.2.2.2.2.2.2.2.2.2⟩⟩ rfl rfl hl1.1 rfl (lv_room hcat) hd ⟨h1, h2⟩) hS (fun q _ h => h) (fun q h => h) (fun u t H1 locs1 ht hvm hw hB hz1 hk1 hS1 => k H1 locs1 ls hl1 (by rw [← Nat.add_assoc]; exact ht ▸ hB) hS1)
def bE (w : zE) (sz n : Nat) (g : zG) (mc ms : Nat) (f' : Nat → va_E) : Prop := g.2.2.1.1.sig.returnType = none ∧ g.2.2.2.2 = MQ g.2.1.2.2.2 (bQ w sz n f') g.2.1.2.2.1 g.2.1.1 mc ms (bA sz)
theorem b_vret {mc ms : Nat} {f' : Nat → va_E} (F : bF w sz n0 g own cc nL D) (X : bE w sz (n0 + mc) g mc ms f') (hd : decode cc pc = .ok (.return_, 1)) (e : ∀ k, k < n0 + mc → f k = f' k) : BW w sz n0 g nL pc lv [] f mc ms := fun H locs ls hl hP hS => by
  rw [X.2]
  exact W.vret F.1 F.2.1 X.1 (fun t ht hW => ⟨⟨(), rfl, trivial, by show bP w sz _ f' t.heap; rw [ht]; exact hP.ext e⟩, hS.F ht⟩) hS.2.2 hd F.2.2.2.2.2.1
end BR
theorem bC_of {l : Launch} {w : zE} {sz : Nat} {y : MethodName} {bytes : ByteArray} {maxL d n mc ms : Nat} {a : Nat} {f f' : Nat → va_E} (hm : zMe y bytes maxL none 0) (hy : y.name = "<init>") (lv0 : List (Option Value)) (h0 : zL 0 lv0 = [(0, .ref a)]) (hlen : 1 ≤ maxL) (body : ∀ g : zG, g.1.2.1 = l → g.1.2.2.2 = bR d mc ms → g.2.2.1.1.name = "<init>" → bF w sz n g y.cls bytes maxL d → bE w sz (n + mc) g mc ms f' → BW w sz n g maxL 0 lv0 [] f 0 0) : bC l w sz y bytes maxL d [.ref a] n f mc ms f' := by
  refine Met.ofW (cc := bytes) (maxL := maxL) (ret := none) hm.1 rfl ?_
  intro p e s m ar below meth c s₁ B hml hv
  obtain ⟨rfl, hz, hP, hK, hX⟩ := hv
  have hts := atoms_spec (ws := Cond.code y bytes maxL none :: zTb) B.pre
  have hl := lv_entry [Value.ref a] (n := maxL) hlen
  rw [lg_entry_eq]
  exact body ((p, l, e, bR d mc ms), (s, m, [Value.ref a].toArray, below), (meth, c, 0, 0), (bA sz, MQ below (bQ w sz (n + mc) f') [Value.ref a].toArray s mc ms (bA sz))) rfl rfl (by have := (name_of_methodNamed B.named B.method).1; rw [this, hy]) ⟨B.exec, B.bytes, hml, findClass_of_methodNamed B.named, fun q hq => hts q (List.mem_cons_of_mem _ hq), B.notSynchronized, hK, hz, Nat.le_refl _, Nat.le_refl _, hX⟩ ⟨B.returns, rfl⟩ s.heap [] _ (by rw [h0]; exact hl) hP va_S.rf
