section
/-! BUILDING: from sz on the heap is made cell by cell: cell k, at sz + k, holds f k; n0 of them at the method's begin, cs made since -/
def bP (w : zE) (sz n : Nat) (f : Nat → va_E) (H : Heap) : Prop := ∀ k, k < n → va_at w.1 vwCl (sz + k, f k) H
def bA (sz : Nat) (q : Nat) : Prop := sz ≤ q
def bX (U : State) : Prop := (va_AO RX4 U ∧ va_AO RX5 U ∧ va_AO RX2 U) ∧ va_Nw (.methodLinkNest RX1 31 yX4_init RX7) U ∧ va_Nw (.methodLinkNest RX6 20 yX5_init RX7) U ∧ va_Nw (.methodLinkNest RX7 21 yX3_init RX7) U ∧ va_Nw (.methodLinkNest RX3 24 yX5_init RX7) U ∧ va_Nw (.methodLinkNest RX0 20 yX5_init RX7) U ∧ va_Nw (.methodLinkNest RX7 39 yX2_init RX7) U
theorem bX.warm {s U : State} (hW : s.WarmedH U.vm) (h : bX s) : bX U := ⟨⟨h.1.1.moved hW.alike, h.1.2.1.moved hW.alike, h.1.2.2.moved hW.alike⟩, h.2.1.warmM hW, h.2.2.1.warmM hW, h.2.2.2.1.warmM hW, h.2.2.2.2.1.warmM hW, h.2.2.2.2.2.1.warmM hW, h.2.2.2.2.2.2.warmM hW⟩
theorem bX.same {u U : State} (e : u.vm = U.vm) (h : bX u) : bX U := by
  have hv : u.vm.Alike U.vm := e ▸ Vm.Alike.refl u.vm
  exact ⟨⟨h.1.1.moved hv, h.1.2.1.moved hv, h.1.2.2.moved hv⟩, h.2.1.same rfl e, h.2.2.1.same rfl e, h.2.2.2.1.same rfl e, h.2.2.2.2.1.same rfl e, h.2.2.2.2.2.1.same rfl e, h.2.2.2.2.2.2.same rfl e⟩
def bL (sz n : Nat) (f : Nat → va_E) : va_W := (List.range n).map (fun k => (sz + k, f k))
theorem bL_len {sz n : Nat} {f : Nat → va_E} : (bL sz n f).length = n := by unfold bL; rw [List.length_map, List.length_range]
theorem bL_at {sz n k : Nat} {f : Nat → va_E} (h : k < n) : (bL sz n f)[k]? = some (sz + k, f k) := by
  unfold bL
  rw [List.getElem?_map, List.getElem?_range h]
  rfl
theorem bL_inv {sz n k : Nat} {f : Nat → va_E} {q : Nat × va_E} (h : (bL sz n f)[k]? = some q) : k < n ∧ q = (sz + k, f k) := by
  have hk : k < n := by
    have h1 := (List.getElem?_eq_some_iff.mp h).1
    rwa [bL_len] at h1
  rw [bL_at hk] at h
  exact ⟨hk, (Option.some.inj h).symm⟩
theorem bP.P {w : zE} {sz n : Nat} {f : Nat → va_E} {H : Heap} (h : bP w sz n f H) : va_P w.1 vwCl (bL sz n f) H := by
  intro k q hk
  obtain ⟨h1, rfl⟩ := bL_inv hk
  exact h k h1
theorem bP.of {w : zE} {sz n : Nat} {f : Nat → va_E} {H : Heap} (h : va_P w.1 vwCl (bL sz n f) H) : bP w sz n f H := fun k hk => h k _ (bL_at hk)
theorem bL_D {sz n : Nat} {f : Nat → va_E} : va_D (bA sz) (bL sz n f) := by
  refine ⟨fun i j p q hi hj e => ?_, fun k q hk => ?_⟩
  · obtain ⟨h1, rfl⟩ := bL_inv hi
    obtain ⟨h2, rfl⟩ := bL_inv hj
    have e : sz + i = sz + j := e
    omega
  · obtain ⟨h1, rfl⟩ := bL_inv hk
    exact Nat.le_add_right _ _
theorem bP.set {w : zE} {sz n i : Nat} {f : Nat → va_E} {e : va_E} {H : Heap} (hi : i < n) (h : va_P w.1 vwCl ((bL sz n f).set i (sz + i, e)) H) : bP w sz n (va_up f i e) H := by
  intro k hk
  by_cases hki : k = i
  · subst hki
    rw [va_up_self]
    exact h k _ (List.getElem?_set_self (by rw [bL_len]; exact hi))
  · rw [va_up_ne _ _ hki]
    exact h k _ (by rw [List.getElem?_set_ne (Ne.symm hki)]; exact bL_at hk)
theorem bP.ext {w : zE} {sz n : Nat} {f f' : Nat → va_E} {H : Heap} (h : bP w sz n f H) (e : ∀ k, k < n → f k = f' k) : bP w sz n f' H := fun k hk => (e k hk) ▸ h k hk
/-- the new cell stands at the heap's end -/
theorem bP.push {w : zE} {sz n q : Nat} {f : Nat → va_E} {e : va_E} {H : Heap} (h : va_P w.1 vwCl (bL sz n f ++ [(q, e)]) H) (hD : va_D (bA sz) (bL sz n f ++ [(q, e)])) (hz : H.size ≤ sz + (n + 1)) : q = sz + n ∧ bP w sz (n + 1) (va_up f n e) H := by
  have hl : (bL sz n f ++ [(q, e)])[n]? = some (q, e) := by
    rw [List.getElem?_append_right (by rw [bL_len]; exact Nat.le_refl _), bL_len, Nat.sub_self]
    rfl
  have ho : ∀ k, k < n → (bL sz n f ++ [(q, e)])[k]? = some (sz + k, f k) := fun k hk => by
    rw [List.getElem?_append_left (by rw [bL_len]; exact hk)]
    exact bL_at hk
  have hq : q < H.size := (h n _ hl).lt
  have hA : sz ≤ q := hD.2 n _ hl
  have hqn : q = sz + n := by
    rcases Nat.lt_or_ge (q - sz) n with z | z
    · have z1 := hD.1 (q - sz) n _ _ (ho _ z) hl (by show sz + (q - sz) = q; omega)
      omega
    · omega
  subst hqn
  refine ⟨rfl, fun k hk => ?_⟩
  by_cases hkn : k = n
  · subst hkn
    rw [va_up_self]
    exact h k _ hl
  · rw [va_up_ne _ _ hkn]
    exact h k _ (ho k (by omega))
def BW (w : zE) (sz n0 : Nat) (g : zG) (nL pc : Nat) (lv : List (Option Value)) (st : List Value) (f : Nat → va_E) (cs sl : Nat) : Prop :=
  ∀ (H : Heap) (locs : List Loc) (ls : Array Slot), lv_has ls nL (zL 0 lv) → bP w sz (n0 + cs) f H → va_S (bA sz) g.2.1.1.heap H locs → W g.1.1 g.1.2.1 g.1.2.2.1 g.1.2.2.2 g.2.1.1 g.2.1.2.1 g.2.1.2.2.1 g.2.1.2.2.2 g.2.2.1.1 g.2.2.1.2.1 H locs cs sl g.2.2.2.2 (F0 g.2.1.2.1 pc ls st)
def bF (w : zE) (sz n0 : Nat) (g : zG) (own : String) (cc : ByteArray) (nL D : Nat) : Prop :=
  g.1.1.tables.exec = Jvm.exec ∧ g.2.2.1.2.1.code = cc ∧ g.2.2.1.2.1.maxLocals = nL ∧ g.2.1.1.vm.findClass own = some g.2.1.2.1.cls ∧ (∀ c ∈ zTb, c.before g.2.1.2.2.1 g.2.1.1 = true) ∧ g.2.2.1.1.locks = false ∧ va_K w.1 vwCl (zT w) g.2.1.1 ∧ g.2.1.1.heap.size = sz + n0 ∧ D ≤ g.1.2.2.2.frames ∧ 60 * D ≤ g.1.2.2.2.locals ∧ bX g.2.1.1
section BR
variable {w : zE} {sz n0 : Nat} {g : zG} {own : String} {cc : ByteArray} {nL D pc cs sl : Nat} {lv lv' : List (Option Value)} {st : List Value} {f : Nat → va_E}
/-- how large the heap is -/
theorem b_size {p : Program} {l : Launch} {e : Env} {R : Room} {s : State} {m : MethodId} {args : Array Value} {below : List Frame} {meth : Method} {c : Code} {H : Heap} {locs : List Loc} {cells slots : Nat} {Q : State → Prop} {g : JFrame} (k : H.size ≤ s.heap.size + cells → W p l e R s m args below meth c H locs cells slots Q g) : W p l e R s m args below meth c H locs cells slots Q g := fun T hT X => k (hT ▸ X.same.2.2.1) T hT X
theorem b_iconst {n : Int} {v : Int32} (F : bF w sz n0 g own cc nL D) (hd : decode cc pc = .ok (.iconst n, 1)) (hv : Int32.ofInt n = v) (k : BW w sz n0 g nL (pc + 1) lv (.int v :: st) f cs sl) : BW w sz n0 g nL pc lv st f cs sl := fun H locs ls hl hP hS => lv_iconst F.1 F.2.1 hd hv (k H locs ls hl hP hS)
theorem b_bipush {n : Int} {v : Int32} (F : bF w sz n0 g own cc nL D) (hd : decode cc pc = .ok (.bipush n, 2)) (hv : (Int8.ofInt n).toInt32 = v) (k : BW w sz n0 g nL (pc + 2) lv (.int v :: st) f cs sl) : BW w sz n0 g nL pc lv st f cs sl := fun H locs ls hl hP hS => lv_bipush F.1 F.2.1 hd hv (k H locs ls hl hP hS)
theorem b_sipush {n : Int} {v : Int32} (F : bF w sz n0 g own cc nL D) (hd : decode cc pc = .ok (.sipush n, 3)) (hv : (Int16.ofInt n).toInt32 = v) (k : BW w sz n0 g nL (pc + 3) lv (.int v :: st) f cs sl) : BW w sz n0 g nL pc lv st f cs sl := fun H locs ls hl hP hS => lv_sipush F.1 F.2.1 hd hv (k H locs ls hl hP hS)
theorem b_iload {n : Fin 4} {x : Int32} (F : bF w sz n0 g own cc nL D) (hd : decode cc pc = .ok (.iload_n n, 1)) (hv : lv[(n : Nat)]? = some (some (.int x))) (k : BW w sz n0 g nL (pc + 1) lv (.int x :: st) f cs sl) : BW w sz n0 g nL pc lv st f cs sl := fun H locs ls hl hP hS => lv_iload_n F.1 F.2.1 hd rfl (zL_at hl hv) (k H locs ls hl hP hS)
theorem b_aload {n : Fin 4} {x : Nat} (F : bF w sz n0 g own cc nL D) (hd : decode cc pc = .ok (.aload_n n, 1)) (hv : lv[(n : Nat)]? = some (some (.ref x))) (k : BW w sz n0 g nL (pc + 1) lv (.ref x :: st) f cs sl) : BW w sz n0 g nL pc lv st f cs sl := fun H locs ls hl hP hS => lv_aload_n F.1 F.2.1 hd rfl (zL_at hl hv) (k H locs ls hl hP hS)
theorem b_istore {n : Fin 4} {x : Int32} (F : bF w sz n0 g own cc nL D) (hd : decode cc pc = .ok (.istore_n n, 1)) (hn : (n : Nat) < nL) (hok : zok lv (n : Nat) = true) (he : lv.set (n : Nat) (some (.int x)) = lv') (k : BW w sz n0 g nL (pc + 1) lv' st f cs sl) : BW w sz n0 g nL pc lv (.int x :: st) f cs sl := fun H locs ls hl hP hS => lv_istore_n F.1 F.2.1 hd rfl hl hn rfl (fun ls2 hl2 => k H locs ls2 (he ▸ zL_less hl2 (zL_set hok)) hP hS)
theorem b_astore {n : Fin 4} {x : Nat} (F : bF w sz n0 g own cc nL D) (hd : decode cc pc = .ok (.astore_n n, 1)) (hn : (n : Nat) < nL) (hok : zok lv (n : Nat) = true) (he : lv.set (n : Nat) (some (.ref x)) = lv') (k : BW w sz n0 g nL (pc + 1) lv' st f cs sl) : BW w sz n0 g nL pc lv (.ref x :: st) f cs sl := fun H locs ls hl hP hS => lv_astore_n F.1 F.2.1 hd rfl hl hn rfl (fun ls2 hl2 => k H locs ls2 (he ▸ zL_less hl2 (zL_set hok)) hP hS)
theorem b_iinc {n : Nat} {j : Int} {x v : Int32} (F : bF w sz n0 g own cc nL D) (hd : decode cc pc = .ok (.iinc n j, 3)) (hv : lv[n]? = some (some (.int x))) (hj : x + Int32.ofInt j = v) (hn : n < nL) (hok : zok lv n = true) (he : lv.set n (some (.int v)) = lv') (k : BW w sz n0 g nL (pc + 3) lv' st f cs sl) : BW w sz n0 g nL pc lv st f cs sl := fun H locs ls hl hP hS => by
  obtain ⟨q, hq⟩ := List.getElem?_of_mem ((zL_mem lv 0 n _).mpr ⟨Nat.zero_le _, hv⟩)
  exact lv_iinc F.1 F.2.1 hd hl hq hj hn rfl (fun ls2 hl2 => k H locs ls2 (he ▸ zL_less hl2 (zL_set hok)) hP hS)
theorem b_dup {v : Value} (F : bF w sz n0 g own cc nL D) (hd : decode cc pc = .ok (.dup, 1)) (hc : v.category = 1) (k : BW w sz n0 g nL (pc + 1) lv (v :: v :: st) f cs sl) : BW w sz n0 g nL pc lv (v :: st) f cs sl := fun H locs ls hl hP hS => lv_dup F.1 F.2.1 hd hc (k H locs ls hl hP hS)
theorem b_ge {x y : Int32} {off : Int} {tgt : Nat} (F : bF w sz n0 g own cc nL D) (hd : decode cc pc = .ok (.if_icmp .ge off, 3)) (ht : (pc : Int) + off = (tgt : Int)) (kt : y ≤ x → BW w sz n0 g nL tgt lv st f cs sl) (kf : x < y → BW w sz n0 g nL (pc + 3) lv st f cs sl) : BW w sz n0 g nL pc lv (.int y :: .int x :: st) f cs sl := fun H locs ls hl hP hS => lv_icmp_ge F.1 F.2.1 hd ht (fun q => kt q H locs ls hl hP hS) (fun q => kf (Int32.not_le.mp q) H locs ls hl hP hS)
theorem b_goto {off : Int} {tgt : Nat} (F : bF w sz n0 g own cc nL D) (hd : decode cc pc = .ok (.goto off, 3)) (ht : (pc : Int) + off = (tgt : Int)) (k : BW w sz n0 g nL tgt lv st f cs sl) : BW w sz n0 g nL pc lv st f cs sl := fun H locs ls hl hP hS => lv_goto F.1 F.2.1 hd ht (k H locs ls hl hP hS)
theorem b_obj {a idx : Nat} (F : bF w sz n0 g own cc nL D) (hl : Cond.methodLink own idx Lib.objectInit ∈ zTb) (h2 : Cond.instanceMethod Lib.objectInit ∈ zTb) (h3 : Cond.code Lib.objectInit ⟨#[0xb1]⟩ 1 none ∈ zTb) (hd : decode cc pc = .ok (.invokespecial idx, 3)) (hD : 1 ≤ D) (k : BW w sz n0 g nL (pc + 3) lv [] f cs sl) : BW w sz n0 g nL pc lv [.ref a] f cs sl := fun H locs ls hl1 hP hS => by
  have f1 := F.2.2.2.2.2.2.2.2.1
  have f2 := F.2.2.2.2.2.2.2.2.2.1
  refine W.objInit F.1 F.2.1 F.2.2.2.1 (F.2.2.2.2.1 _ hl) (F.2.2.2.2.1 _ h2) (F.2.2.2.2.1 _ h3) rfl (by rw [F.2.2.1]; exact hl1.1) rfl hd (by omega) ?_ ?_
  · show 2 * 0 + 0 + 12 ≤ _
    omega
  · exact W.eq (g2 := F0 g.2.1.2.1 (pc + 3) ls []) rfl (k H locs ls hl1 hP hS)
theorem b_new {C : String} {T : u_T} {N ci idx j : Nat} {fs : List Value} (F : bF w sz n0 g own cc nL D) (hcl : Cond.classLink own idx C ∈ zTb) (hinst : Cond.instantiable C N ∈ zTb) (hini : Cond.initialized C ∈ zTb) (hin : ∀ c ∈ u_ws C T N, c ∈ zTb) (ty : Nat → FieldType) (hty : ∀ k, k < N → parseFieldDescriptor (T k).2.2.1 = some (ty k)) (hc : vwCl[ci]? = some (C, T, N)) (hfs : ∀ j, j < N → defaultValue (ty j) = vp_V fs j) (hcells : cs + 1 ≤ g.1.2.2.2.cells) (hslots : sl + N ≤ g.1.2.2.2.slots) (hj : n0 + cs = j) (hd : decode cc pc = .ok (.new idx, 3)) (k : BW w sz n0 g nL (pc + 3) lv (.ref (sz + j) :: st) (va_up f j (.inr (ci, fs))) (cs + 1) (sl + N)) : BW w sz n0 g nL pc lv st f cs sl := fun H locs ls hl hP hS =>
  va_new F.1 F.2.1 F.2.2.2.2.1 hin ty hty F.2.2.2.1 (F.2.2.2.2.1 _ hcl) (F.2.2.2.2.1 _ hinst) (F.2.2.2.2.1 _ hini) F.2.2.2.2.2.2.1 hP.P bL_D hS (fun q h => by have := F.2.2.2.2.2.2.2.1; show sz ≤ q; omega) hc hfs hcells hslots hd (fun q H1 hP1 hD1 hS1 => b_size fun hz => by
    obtain ⟨rfl, hP2⟩ := bP.push hP1 hD1 (by have := F.2.2.2.2.2.2.2.1; omega)
    subst hj
    exact k H1 locs ls hl hP2 hS1)
theorem b_newa {atype : ArrayType} {ty : FieldType} {a0 : vp_A} {N' t0 j : Nat} {cA : ClassId} {n : Int32} (F : bF w sz n0 g own cc nL D) (harr : Cond.arrayClass (newarray.typeOf atype) ∈ zTb) (hty : newarray.typeOf atype = ty) (hprim : va_RA g.2.1.1 cA ty → g.2.1.1.vm.findClass ("[" ++ ty.toString) = some cA) (hpr2 : ∀ cB, va_RA g.2.1.1 cB ty → g.2.1.1.vm.findClass ("[" ++ ty.toString) = some cB) (ht : (zT w)[t0]? = some (cA, ty)) (ha : ∀ cA : ClassId, vp_cell cA a0 = arrV cA N' (fun _ => defaultValue ty)) (hn : ¬ n < 0) (hN : n.toNatClampNeg = N') (hbytes : N' * componentBytes ty ≤ 536870912) (hcells : cs + 1 ≤ g.1.2.2.2.cells) (hslots : sl + N' ≤ g.1.2.2.2.slots) (hj : n0 + cs = j) (hd : decode cc pc = .ok (.newarray atype, 2)) (k : BW w sz n0 g nL (pc + 2) lv (.ref (sz + j) :: st) (va_up f j (.inl (cA, a0))) (cs + 1) (sl + N')) : BW w sz n0 g nL pc lv (.int n :: st) f cs sl := fun H locs ls hl hP hS =>
  va_newa F.1 F.2.1 (F.2.2.2.2.1 _ harr) hty F.2.2.2.2.2.2.1 hP.P bL_D hS (fun q h => by have := F.2.2.2.2.2.2.2.1; show sz ≤ q; omega) ha hn hN hbytes hcells hslots hd (fun q cB H1 hK1 hP1 hD1 hS1 => b_size fun hz => by
    have e1 := hprim (F.2.2.2.2.2.2.1.2 t0 _ ht).2
    have e2 := hpr2 cB (hK1.2 (zT w).length (cB, ty) (by rw [List.getElem?_append_right (Nat.le_refl _), Nat.sub_self]; rfl)).2
    have e3 : cB = cA := Option.some.inj (e2.symm.trans e1)
    subst e3
    obtain ⟨rfl, hP2⟩ := bP.push hP1 hD1 (by have := F.2.2.2.2.2.2.2.1; omega)
    subst hj
    exact k H1 locs ls hl hP2 hS1)
theorem b_newq {C : String} {N' t0 idx j : Nat} {cA : ClassId} {n : Int32} (F : bF w sz n0 g own cc nL D) (hcl : Cond.classLink own idx C ∈ zTb) (hover : va_AO C g.2.1.1) (ht : (zT w)[t0]? = some (cA, .object C)) (hn : ¬ n < 0) (hN : n.toNatClampNeg = N') (hbytes : N' * 4 ≤ 536870912) (hcells : cs + 1 ≤ g.1.2.2.2.cells) (hslots : sl + N' ≤ g.1.2.2.2.slots) (hj : n0 + cs = j) (hd : decode cc pc = .ok (.anewarray idx, 3)) (k : BW w sz n0 g nL (pc + 3) lv (.ref (sz + j) :: st) (va_up f j (.inl (cA, N', .inr (.inr (.inr (.inr (fun _ => none))))))) (cs + 1) (sl + N')) : BW w sz n0 g nL pc lv (.int n :: st) f cs sl := fun H locs ls hl hP hS =>
  va_newq F.1 F.2.1 F.2.2.2.1 (F.2.2.2.2.1 _ hcl) hover F.2.2.2.2.2.2.1 hP.P bL_D hS (fun q h => by have := F.2.2.2.2.2.2.2.1; show sz ≤ q; omega) hn hN hbytes hcells hslots hd (fun q cB H1 hK1 hP1 hD1 hS1 => b_size fun hz => by
    obtain ⟨-, -, -, -, -, e1⟩ := (F.2.2.2.2.2.2.1.2 t0 _ ht).2
    obtain ⟨-, -, -, -, -, e2⟩ := (hK1.2 (zT w).length (cB, .object C) (by rw [List.getElem?_append_right (Nat.le_refl _), Nat.sub_self]; rfl)).2
    have e3 : cB = cA := Option.some.inj (e2.symm.trans e1)
    subst e3
    obtain ⟨rfl, hP2⟩ := bP.push hP1 hD1 (by have := F.2.2.2.2.2.2.2.1; omega)
    subst hj
    exact k H1 locs ls hl hP2 hS1)
theorem b_get {C : String} {T : u_T} {N ci i idx j : Nat} {fs : List Value} {v : Value} (F : bF w sz n0 g own cc nL D) (hi : i < n0 + cs) (he : f i = .inr (ci, fs)) (hc : vwCl[ci]? = some (C, T, N)) (hin : ∀ c ∈ u_ws C T N, c ∈ zTb) (hj : j < N) (hdec : (T j).1 = C) (hl : Cond.fieldLink own idx C (T j).2.1 (T j).2.2.1 ∈ zTb) (hv : fs[j]? = some v) (hd : decode cc pc = .ok (.getfield idx, 3)) (k : BW w sz n0 g nL (pc + 3) lv (v :: st) f cs sl) : BW w sz n0 g nL pc lv (.ref (sz + i) :: st) f cs sl := fun H locs ls hl1 hP hS =>
  va_get F.1 F.2.1 F.2.2.2.2.1 hin F.2.2.2.1 F.2.2.2.2.2.2.1 hP.P i (by rw [bL_at hi, he]) hc j hj (F.2.2.2.2.1 _ hl) (fun _ h => by rw [hdec] at h; exact h) hv hd (k H locs ls hl1 hP hS)
theorem b_put {C : String} {T : u_T} {N ci i idx j : Nat} {fs : List Value} {v : Value} {ty : FieldType} {ty0 : Nat → FieldType} (F : bF w sz n0 g own cc nL D) (hi : i < n0 + cs) (he : f i = .inr (ci, fs)) (hc : vwCl[ci]? = some (C, T, N)) (hin : ∀ c ∈ u_ws C T N, c ∈ zTb) (hty : ∀ k, k < N → parseFieldDescriptor (T k).2.2.1 = some (ty0 k)) (hnm : ∀ a, a < N → ∀ b, b < N → a ≠ b → (T a).2.1 ≠ (T b).2.1) (hj : j < N) (hdec : (T j).1 = C) (hfin : (T j).2.2.2 = false) (hl : Cond.fieldLink own idx C (T j).2.1 (T j).2.2.1 ∈ zTb) (hd2 : ty0 j = ty) (hn : narrow ty v = v) (hfit : fits ty v = true) (hlen : j < fs.length) (hd : decode cc pc = .ok (.putfield idx, 3)) (k : BW w sz n0 g nL (pc + 3) lv st (va_up f i (.inr (ci, fs.set j v))) cs sl) : BW w sz n0 g nL pc lv (v :: .ref (sz + i) :: st) f cs sl := fun H locs ls hl1 hP hS =>
  va_put F.1 F.2.1 F.2.2.2.2.1 hin ty0 hty hnm F.2.2.2.1 F.2.2.2.2.2.2.1 hP.P bL_D hS i (by rw [bL_at hi, he]) hc j hj (F.2.2.2.2.1 _ hl) (fun _ h => by rw [hdec] at h; exact h) hfin (hd2 ▸ hty j hj) hn hfit hlen hd (fun H1 locs1 hP1 _ hS1 => k H1 locs1 ls hl1 (bP.set hi hP1) hS1)
theorem b_putF {C : String} {T : u_T} {N ci i idx j : Nat} {fs : List Value} {v : Value} {ty : FieldType} {ty0 : Nat → FieldType} (F : bF w sz n0 g C cc nL D) (hI : g.2.2.1.1.name = "<init>") (hi : i < n0 + cs) (he : f i = .inr (ci, fs)) (hc : vwCl[ci]? = some (C, T, N)) (hin : ∀ c ∈ u_ws C T N, c ∈ zTb) (hty : ∀ k, k < N → parseFieldDescriptor (T k).2.2.1 = some (ty0 k)) (hnm : ∀ a, a < N → ∀ b, b < N → a ≠ b → (T a).2.1 ≠ (T b).2.1) (hj : j < N) (hdec : (T j).1 = C) (hfin : (T j).2.2.2 = true) (hl : Cond.fieldLink C idx C (T j).2.1 (T j).2.2.1 ∈ zTb) (hd2 : ty0 j = ty) (hn : narrow ty v = v) (hfit : fits ty v = true) (hlen : j < fs.length) (hd : decode cc pc = .ok (.putfield idx, 3)) (k : BW w sz n0 g nL (pc + 3) lv st (va_up f i (.inr (ci, fs.set j v))) cs sl) : BW w sz n0 g nL pc lv (v :: .ref (sz + i) :: st) f cs sl := fun H locs ls hl1 hP hS =>
  va_putF F.1 F.2.1 F.2.2.2.2.1 hin ty0 hty hnm F.2.2.2.1 F.2.2.2.2.2.2.1 hP.P bL_D hS i (by rw [bL_at hi, he]) hc j hj (F.2.2.2.2.1 _ hl) (fun _ h => by rw [hdec] at h; exact h) hfin hI hdec (hd2 ▸ hty j hj) hn hfit hlen hd (fun H1 locs1 hP1 _ hS1 => k H1 locs1 ls hl1 (bP.set hi hP1) hS1)
theorem b_alen {i t0 : Nat} {cA : ClassId} {x : vp_A} {ty : FieldType} {v : Int32} (F : bF w sz n0 g own cc nL D) (hi : i < n0 + cs) (he : f i = .inl (cA, x)) (ht : (zT w)[t0]? = some (cA, ty)) (hv : Int32.ofNat x.1 = v) (hd : decode cc pc = .ok (.arraylength, 1)) (k : BW w sz n0 g nL (pc + 1) lv (.int v :: st) f cs sl) : BW w sz n0 g nL pc lv (.ref (sz + i) :: st) f cs sl := fun H locs ls hl1 hP hS =>
  va_alen F.1 F.2.1 F.2.2.2.2.2.2.1 hP.P i t0 (by rw [bL_at hi, he]) ht hv hd (k H locs ls hl1 hP hS)
theorem b_astq {i v t0 ci N : Nat} {cA : ClassId} {r : vw_C} {vs : List Value} {fr : Nat → Option Nat} {x : Int32} (F : bF w sz n0 g own cc nL D) (hi : i < n0 + cs) (he : f i = .inl (cA, N, .inr (.inr (.inr (.inr fr))))) (ht : (zT w)[t0]? = some (cA, .object r.1)) (hv : v < n0 + cs) (hve : f v = .inr (ci, vs)) (hc : vwCl[ci]? = some r) (hin : vp_in x N) (hd : decode cc pc = .ok (.aastore, 1)) (k : BW w sz n0 g nL (pc + 1) lv st (va_up f i (.inl (cA, N, .inr (.inr (.inr (.inr (va_up fr x.toNatClampNeg (some (sz + v))))))))) cs sl) : BW w sz n0 g nL pc lv (.ref (sz + v) :: .int x :: .ref (sz + i) :: st) f cs sl := fun H locs ls hl1 hP hS =>
  va_astq F.1 F.2.1 F.2.2.2.2.2.2.1 hP.P bL_D hS i t0 v ci (by rw [bL_at hi, he]) ht (by rw [bL_at hv, hve]) hc hin hd (fun H1 locs1 hP1 _ hS1 => k H1 locs1 ls hl1 (bP.set hi hP1) hS1)
theorem b_ext {f' : Nat → va_E} (e : ∀ k, k < n0 + cs → f k = f' k) (k : BW w sz n0 g nL pc lv st f' cs sl) : BW w sz n0 g nL pc lv st f cs sl := fun H locs ls hl hP hS => k H locs ls hl (hP.ext e) hS
def bR (d mc ms : Nat) : Room := { frames := d, cells := mc, slots := ms, locals := 60 * d }
def bPre (w : zE) (sz : Nat) (args : List Value) (n : Nat) (f : Nat → va_E) : Array Value → State → Prop := va_Pc args (fun U => U.heap.size = sz + n ∧ bP w sz n f U.heap ∧ va_K w.1 vwCl (zT w) U ∧ bX U)
def bQ (w : zE) (sz n : Nat) (f : Nat → va_E) : Array Value → State → Outcome → State → Prop := va_Qv (S := Unit) (fun _ => True) (fun _ t => bP w sz n f t.heap) (bA sz)
def bC (l : Launch) (w : zE) (sz : Nat) (y : MethodName) (bytes : ByteArray) (maxL d : Nat) (args : List Value) (n : Nat) (f : Nat → va_E) (mc ms : Nat) (f' : Nat → va_E) : Prop := Met l y (.code y bytes maxL none :: zTb) (bR d mc ms) (bPre w sz args n f) (bQ w sz (n + mc) f') mc ms (bA sz)
theorem bPre_blind {args : List Value} {n : Nat} : FrameBlind (bPre w sz args n f) := fun a U g mk q => by
  obtain ⟨q0, q1, q2, q3, q4⟩ := q
  exact ⟨q0, q1, q2, va_K.moved (Vm.Alike.refl U.vm) q3, q4.same rfl⟩
theorem b_cells (F : bF w sz n0 g own cc nL D) {H : Heap} (hP : bP w sz (n0 + cs) f H) (h0 : g.2.1.1.heap.size ≤ H.size) (hz : H.size ≤ g.2.1.1.heap.size + cs) : H.size = sz + (n0 + cs) := by
  have h1 := F.2.2.2.2.2.2.2.1
  rcases Nat.eq_zero_or_pos cs with z | z
  · omega
  · have := (hP (n0 + cs - 1) (by omega)).lt
    have this : sz + (n0 + cs - 1) < H.size := this
    omega
theorem b_callI {y : MethodName} {bytes : ByteArray} {maxL d idx a mc ms n : Nat} {f' : Nat → va_E} {rest : List Value} (F : bF w sz n0 g own cc nL D) (hC : bC g.1.2.1 w sz y bytes maxL d [.ref a] n f mc ms f') (hn : n0 + cs = n) (hm : zMe y bytes maxL none 0) (hi : Cond.instanceMethod y ∈ zTb) (hy : y.name = "<init>") (hl : Cond.methodLink own idx y ∈ zTb) (hcat : (rest.map fun v => v.category).sum ≤ 8) (hd : decode cc pc = .ok (.invokespecial idx, 3)) (hD : d + 1 ≤ D) (h1 : cs + mc ≤ g.1.2.2.2.cells) (h2 : sl + ms ≤ g.1.2.2.2.slots) (k : BW w sz n0 g nL (pc + 3) lv rest f' (cs + mc) (sl + ms)) : BW w sz n0 g nL pc lv (.ref a :: rest) f cs sl := fun H locs ls hl1 hP hS => b_size fun hz => by
  subst hn
  have f1 := F.2.2.2.2.2.2.2.2.1
  have f2 := F.2.2.2.2.2.2.2.2.2.1
  have hzz := b_cells F hP hS.1 hz
  have h5 := hm.2.2.2.2
  exact va_callv (va_runI (As := []) (rest := rest) ⟨F.1, F.2.1, F.2.2.1, F.2.2.2.1, F.2.2.2.2.1⟩ hC (cwI 0 F.2.2.2.2.1 (zGood hm) rfl rfl rfl (F.2.2.2.2.1 _ hm.2.2.1) (F.2.2.2.2.1 _ hl) (F.2.2.2.2.1 _ hi) hy hm.2.2.2.1 ⟨by show d + 1 ≤ _; omega, by show 8 + (maxL + 11) + 60 * d ≤ _; omega⟩) ⟨bPre_blind, fun U hU hW => ⟨rfl, by rw [hU]; exact hzz, by rw [hU]; exact hP, va_K.moved hW.alike F.2.2.2.2.2.2.1, bX.warm hW F.2.2.2.2.2.2.2.2.2.2⟩⟩ rfl rfl hl1.1 rfl (lv_room hcat) hd ⟨h1, h2⟩) hS (fun q _ h => h) (fun q h => h) (fun u t H1 locs1 ht hvm hw hB hz1 hk1 hS1 => k H1 locs1 ls hl1 (by rw [← Nat.add_assoc]; exact ht ▸ hB) hS1)
theorem b_callN {y : MethodName} {bytes : ByteArray} {maxL d idx a mc ms n : Nat} {host : String} {f' : Nat → va_E} {rest : List Value} (F : bF w sz n0 g own cc nL D) (hC : bC g.1.2.1 w sz y bytes maxL d [.ref a] n f mc ms f') (hn : n0 + cs = n) (hm : zMe y bytes maxL none 0) (hi : Cond.instanceMethod y ∈ zTb) (hy : y.name = "<init>") (hl : va_Nw (.methodLinkNest own idx y host) g.2.1.1) (hcat : (rest.map fun v => v.category).sum ≤ 8) (hd : decode cc pc = .ok (.invokespecial idx, 3)) (hD : d + 1 ≤ D) (h1 : cs + mc ≤ g.1.2.2.2.cells) (h2 : sl + ms ≤ g.1.2.2.2.slots) (k : BW w sz n0 g nL (pc + 3) lv rest f' (cs + mc) (sl + ms)) : BW w sz n0 g nL pc lv (.ref a :: rest) f cs sl := fun H locs ls hl1 hP hS => b_size fun hz => by
  subst hn
  have f1 := F.2.2.2.2.2.2.2.2.1
  have f2 := F.2.2.2.2.2.2.2.2.2.1
  have hzz := b_cells F hP hS.1 hz
  have h5 := hm.2.2.2.2
  exact va_callv (va_runIN (As := []) (rest := rest) ⟨F.1, F.2.1, F.2.2.1, F.2.2.2.1, F.2.2.2.2.1⟩ hC ⟨va_cnB 0 F.2.2.2.2.1 (zGood hm) rfl rfl rfl hl (F.2.2.2.2.1 _ hm.2.2.1) hm.2.2.2.1 ⟨by show d + 1 ≤ _; omega, by show 8 + (maxL + 11) + 60 * d ≤ _; omega⟩, hy, F.2.2.2.2.1 _ hi⟩ ⟨bPre_blind, fun U hU hW => ⟨rfl, by rw [hU]; exact hzz, by rw [hU]; exact hP, va_K.moved hW.alike F.2.2.2.2.2.2.1, bX.warm hW F.2.2.2.2.2.2.2.2.2.2⟩⟩ rfl rfl hl1.1 rfl (lv_room hcat) hd ⟨h1, h2⟩) hS (fun q _ h => h) (fun q h => h) (fun u t H1 locs1 ht hvm hw hB hz1 hk1 hS1 => k H1 locs1 ls hl1 (by rw [← Nat.add_assoc]; exact ht ▸ hB) hS1)
def bE (w : zE) (sz n : Nat) (g : zG) (mc ms : Nat) (f' : Nat → va_E) : Prop := g.2.2.1.1.sig.returnType = none ∧ g.2.2.2.2 = MQ g.2.1.2.2.2 (bQ w sz n f') g.2.1.2.2.1 g.2.1.1 mc ms (bA sz)
theorem b_vret {mc ms : Nat} {f' : Nat → va_E} (F : bF w sz n0 g own cc nL D) (X : bE w sz (n0 + mc) g mc ms f') (hd : decode cc pc = .ok (.return_, 1)) (e : ∀ k, k < n0 + mc → f k = f' k) : BW w sz n0 g nL pc lv [] f mc ms := fun H locs ls hl hP hS => by
  rw [X.2]
  exact W.vret F.1 F.2.1 X.1 (fun t ht hW => ⟨⟨(), rfl, trivial, by show bP w sz _ f' t.heap; rw [ht]; exact hP.ext e⟩, hS.F ht⟩) hS.2.2 hd F.2.2.2.2.2.1
end BR
theorem bC_of {l : Launch} {w : zE} {sz : Nat} {y : MethodName} {bytes : ByteArray} {maxL d n mc ms : Nat} {a : Nat} {f f' : Nat → va_E} (hm : zMe y bytes maxL none 0) (hy : y.name = "<init>") (lv0 : List (Option Value)) (h0 : zL 0 lv0 = [(0, .ref a)]) (hlen : 1 ≤ maxL) (body : ∀ g : zG, g.1.2.1 = l → g.1.2.2.2 = bR d mc ms → g.2.2.1.1.name = "<init>" → bF w sz n g y.cls bytes maxL d → bE w sz (n + mc) g mc ms f' → BW w sz n g maxL 0 lv0 [] f 0 0) : bC l w sz y bytes maxL d [.ref a] n f mc ms f' := by
  refine Met.ofW (cc := bytes) (maxL := maxL) (ret := none) hm.1 rfl ?_
  intro p e s m ar below meth c s₁ B hml hv
  obtain ⟨rfl, hz, hP, hK, hX⟩ := hv
  have hts := atoms_spec (ws := Cond.code y bytes maxL none :: zTb) B.pre
  have hl := lv_entry [Value.ref a] (n := maxL) hlen
  rw [lg_entry_eq]
  exact body ((p, l, e, bR d mc ms), (s, m, [Value.ref a].toArray, below), (meth, c, 0, 0), (bA sz, MQ below (bQ w sz (n + mc) f') [Value.ref a].toArray s mc ms (bA sz))) rfl rfl (by have := (name_of_methodNamed B.named B.method).1; rw [this, hy]) ⟨B.exec, B.bytes, hml, findClass_of_methodNamed B.named, fun q hq => hts q (List.mem_cons_of_mem _ hq), B.notSynchronized, hK, hz, Nat.le_refl _, Nat.le_refl _, hX⟩ ⟨B.returns, rfl⟩ s.heap [] _ (by rw [h0]; exact hl) hP va_S.rf
end
section
theorem bi_X0 : Cond.instantiable RX0 5 ∈ zTb := zTb_in (tbq1 (List.mem_of_getElem? (i := 202) rfl)) (by decide +kernel)
theorem bj_X0 : Cond.initialized RX0 ∈ zTb := zTb_in (tbq1 (List.mem_of_getElem? (i := 7) rfl)) (by decide +kernel)
theorem bd_X0 : ∀ j, j < 5 → defaultValue (tyX0 j) = vp_V [.null, .null, .null, .null, .int 0] j := by decide +kernel
theorem zm_X0_init : zMe yX0_init cX0_init 2 none 0 := ⟨by decide +kernel, zTb_in (tbq1 (List.mem_of_getElem? (i := 205) rfl)) (by decide +kernel), zTb_in (tbq1 (List.mem_of_getElem? (i := 7) rfl)) (by decide +kernel), by decide +kernel, by decide⟩
theorem bm_X0 : Cond.instanceMethod yX0_init ∈ zTb := zTb_in (tbq1 (List.mem_of_getElem? (i := 204) rfl)) (by decide +kernel)
theorem bi_X1 : Cond.instantiable RX1 7 ∈ zTb := zTb_in (tbq1 (List.mem_of_getElem? (i := 33) rfl)) (by decide +kernel)
theorem bj_X1 : Cond.initialized RX1 ∈ zTb := zTb_in (tbq1 (List.mem_of_getElem? (i := 3) rfl)) (by decide +kernel)
theorem bd_X1 : ∀ j, j < 7 → defaultValue (tyX1 j) = vp_V [.null, .int 0, .null, .null, .int 0, .int 0, .int 0] j := by decide +kernel
theorem zm_X1_init : zMe yX1_init cX1_init 2 none 0 := ⟨by decide +kernel, zTb_in (tbq1 (List.mem_of_getElem? (i := 36) rfl)) (by decide +kernel), zTb_in (tbq1 (List.mem_of_getElem? (i := 3) rfl)) (by decide +kernel), by decide +kernel, by decide⟩
theorem bm_X1 : Cond.instanceMethod yX1_init ∈ zTb := zTb_in (tbq1 (List.mem_of_getElem? (i := 35) rfl)) (by decide +kernel)
theorem bi_X2 : Cond.instantiable RX2 4 ∈ zTb := zTb_in (tbq1 (List.mem_of_getElem? (i := 233) rfl)) (by decide +kernel)
theorem bj_X2 : Cond.initialized RX2 ∈ zTb := zTb_in (tbq1 (List.mem_of_getElem? (i := 8) rfl)) (by decide +kernel)
theorem bd_X2 : ∀ j, j < 4 → defaultValue (tyX2 j) = vp_V [.int 0, .int 0, .int 0, .null] j := by decide +kernel
theorem zm_X2_init : zMe yX2_init cX2_init 1 none 0 := ⟨by decide +kernel, zTb_in (tbq1 (List.mem_of_getElem? (i := 236) rfl)) (by decide +kernel), zTb_in (tbq1 (List.mem_of_getElem? (i := 8) rfl)) (by decide +kernel), by decide +kernel, by decide⟩
theorem bm_X2 : Cond.instanceMethod yX2_init ∈ zTb := zTb_in (tbq1 (List.mem_of_getElem? (i := 235) rfl)) (by decide +kernel)
theorem bi_X3 : Cond.instantiable RX3 5 ∈ zTb := zTb_in (tbq1 (List.mem_of_getElem? (i := 170) rfl)) (by decide +kernel)
theorem bj_X3 : Cond.initialized RX3 ∈ zTb := zTb_in (tbq1 (List.mem_of_getElem? (i := 6) rfl)) (by decide +kernel)
theorem bd_X3 : ∀ j, j < 5 → defaultValue (tyX3 j) = vp_V [.null, .int 0, .int 0, .null, .null] j := by decide +kernel
theorem zm_X3_init : zMe yX3_init cX3_init 1 none 0 := ⟨by decide +kernel, zTb_in (tbq1 (List.mem_of_getElem? (i := 173) rfl)) (by decide +kernel), zTb_in (tbq1 (List.mem_of_getElem? (i := 6) rfl)) (by decide +kernel), by decide +kernel, by decide⟩
theorem bm_X3 : Cond.instanceMethod yX3_init ∈ zTb := zTb_in (tbq1 (List.mem_of_getElem? (i := 172) rfl)) (by decide +kernel)
theorem bi_X4 : Cond.instantiable RX4 4 ∈ zTb := zTb_in (tbq1 (List.mem_of_getElem? (i := 40) rfl)) (by decide +kernel)
theorem bj_X4 : Cond.initialized RX4 ∈ zTb := zTb_in (tbq1 (List.mem_of_getElem? (i := 4) rfl)) (by decide +kernel)
theorem bd_X4 : ∀ j, j < 4 → defaultValue (tyX4 j) = vp_V [.int 0, .int 0, .int 0, .int 0] j := by decide +kernel
theorem zm_X4_init : zMe yX4_init cX4_init 1 none 0 := ⟨by decide +kernel, zTb_in (tbq1 (List.mem_of_getElem? (i := 43) rfl)) (by decide +kernel), zTb_in (tbq1 (List.mem_of_getElem? (i := 4) rfl)) (by decide +kernel), by decide +kernel, by decide⟩
theorem bm_X4 : Cond.instanceMethod yX4_init ∈ zTb := zTb_in (tbq1 (List.mem_of_getElem? (i := 42) rfl)) (by decide +kernel)
theorem bi_X5 : Cond.instantiable RX5 7 ∈ zTb := zTb_in (tbq1 (List.mem_of_getElem? (i := 102) rfl)) (by decide +kernel)
theorem bj_X5 : Cond.initialized RX5 ∈ zTb := zTb_in (tbq1 (List.mem_of_getElem? (i := 5) rfl)) (by decide +kernel)
theorem bd_X5 : ∀ j, j < 7 → defaultValue (tyX5 j) = vp_V [.int 0, .int 0, .int 0, .int 0, .int 0, .int 0, .null] j := by decide +kernel
theorem zm_X5_init : zMe yX5_init cX5_init 1 none 0 := ⟨by decide +kernel, zTb_in (tbq1 (List.mem_of_getElem? (i := 105) rfl)) (by decide +kernel), zTb_in (tbq1 (List.mem_of_getElem? (i := 5) rfl)) (by decide +kernel), by decide +kernel, by decide⟩
theorem bm_X5 : Cond.instanceMethod yX5_init ∈ zTb := zTb_in (tbq1 (List.mem_of_getElem? (i := 104) rfl)) (by decide +kernel)
theorem bi_X6 : Cond.instantiable RX6 4 ∈ zTb := zTb_in (tbq1 (List.mem_of_getElem? (i := 27) rfl)) (by decide +kernel)
theorem bj_X6 : Cond.initialized RX6 ∈ zTb := zTb_in (tbq1 (List.mem_of_getElem? (i := 2) rfl)) (by decide +kernel)
theorem bd_X6 : ∀ j, j < 4 → defaultValue (tyX6 j) = vp_V [.null, .null, .null, .int 0] j := by decide +kernel
theorem zm_X6_init : zMe yX6_init cX6_init 2 none 0 := ⟨by decide +kernel, zTb_in (tbq1 (List.mem_of_getElem? (i := 30) rfl)) (by decide +kernel), zTb_in (tbq1 (List.mem_of_getElem? (i := 2) rfl)) (by decide +kernel), by decide +kernel, by decide⟩
theorem bm_X6 : Cond.instanceMethod yX6_init ∈ zTb := zTb_in (tbq1 (List.mem_of_getElem? (i := 29) rfl)) (by decide +kernel)
theorem bi_X7 : Cond.instantiable RX7 6 ∈ zTb := zTb_in (tbq1 (List.mem_of_getElem? (i := 19) rfl)) (by decide +kernel)
theorem bj_X7 : Cond.initialized RX7 ∈ zTb := zTb_in (tbq1 (List.mem_of_getElem? (i := 1) rfl)) (by decide +kernel)
theorem bd_X7 : ∀ j, j < 6 → defaultValue (tyX7 j) = vp_V [.null, .null, .int 0, .null, .null, .null] j := by decide +kernel
theorem zm_X7_init : zMe yX7_init cX7_init 2 none 0 := ⟨by decide +kernel, zTb_in (tbq1 (List.mem_of_getElem? (i := 22) rfl)) (by decide +kernel), zTb_in (tbq1 (List.mem_of_getElem? (i := 1) rfl)) (by decide +kernel), by decide +kernel, by decide⟩
theorem bm_X7 : Cond.instanceMethod yX7_init ∈ zTb := zTb_in (tbq1 (List.mem_of_getElem? (i := 21) rfl)) (by decide +kernel)
theorem bi_X8 : Cond.instantiable RX8 30 ∈ zTb := zTb_in (tbq4 (List.mem_of_getElem? (i := 23) rfl)) (by decide +kernel)
theorem bj_X8 : Cond.initialized RX8 ∈ zTb := zTb_in (tbq1 (List.mem_of_getElem? (i := 9) rfl)) (by decide +kernel)
theorem bd_X8 : ∀ j, j < 30 → defaultValue (tyX8 j) = vp_V [.int 0, .int 0, .null, .null, .null, .int 0, .int 0, .int 0, .int 0, .null, .int 0, .int 0, .int 0, .int 0, .int 0, .int 0, .null, .null, .int 0, .null, .int 0, .null, .null, .null, .null, .int 0, .null, .null, .null, .null] j := by decide +kernel
theorem zm_X8_init : zMe yX8_init cX8_init 2 none 0 := ⟨by decide +kernel, zTb_in (tbq4 (List.mem_of_getElem? (i := 26) rfl)) (by decide +kernel), zTb_in (tbq1 (List.mem_of_getElem? (i := 9) rfl)) (by decide +kernel), by decide +kernel, by decide⟩
theorem bm_X8 : Cond.instanceMethod yX8_init ∈ zTb := zTb_in (tbq4 (List.mem_of_getElem? (i := 25) rfl)) (by decide +kernel)
theorem bl_L_9 : Cond.methodLink RL 9 yX7_init ∈ zTb := zTb_in (tbq1 (List.mem_of_getElem? (i := 20) rfl)) (by decide +kernel)
theorem bo_X7 : Cond.methodLink RX7 1 Lib.objectInit ∈ zTb := zTb_in (tbq1 (List.mem_of_getElem? (i := 23) rfl)) (by decide +kernel)
theorem bl_X7_9 : Cond.methodLink RX7 9 yX6_init ∈ zTb := zTb_in (tbq1 (List.mem_of_getElem? (i := 28) rfl)) (by decide +kernel)
theorem bo_X6 : Cond.methodLink RX6 3 Lib.objectInit ∈ zTb := zTb_in (tbq1 (List.mem_of_getElem? (i := 31) rfl)) (by decide +kernel)
theorem bl_X6_11 : Cond.methodLink RX6 11 yX1_init ∈ zTb := zTb_in (tbq1 (List.mem_of_getElem? (i := 34) rfl)) (by decide +kernel)
theorem bo_X1 : Cond.methodLink RX1 3 Lib.objectInit ∈ zTb := zTb_in (tbq1 (List.mem_of_getElem? (i := 37) rfl)) (by decide +kernel)
theorem bo_X4 : Cond.methodLink RX4 3 Lib.objectInit ∈ zTb := zTb_in (tbq1 (List.mem_of_getElem? (i := 44) rfl)) (by decide +kernel)
theorem bo_X5 : Cond.methodLink RX5 3 Lib.objectInit ∈ zTb := zTb_in (tbq1 (List.mem_of_getElem? (i := 106) rfl)) (by decide +kernel)
theorem bo_X3 : Cond.methodLink RX3 3 Lib.objectInit ∈ zTb := zTb_in (tbq1 (List.mem_of_getElem? (i := 174) rfl)) (by decide +kernel)
theorem bl_X3_17 : Cond.methodLink RX3 17 yX1_init ∈ zTb := zTb_in (tbq1 (List.mem_of_getElem? (i := 176) rfl)) (by decide +kernel)
theorem bl_X7_28 : Cond.methodLink RX7 28 yX0_init ∈ zTb := zTb_in (tbq1 (List.mem_of_getElem? (i := 203) rfl)) (by decide +kernel)
theorem bo_X0 : Cond.methodLink RX0 3 Lib.objectInit ∈ zTb := zTb_in (tbq1 (List.mem_of_getElem? (i := 206) rfl)) (by decide +kernel)
theorem bl_X0_11 : Cond.methodLink RX0 11 yX1_init ∈ zTb := zTb_in (tbq1 (List.mem_of_getElem? (i := 208) rfl)) (by decide +kernel)
theorem bo_X2 : Cond.methodLink RX2 3 Lib.objectInit ∈ zTb := zTb_in (tbq1 (List.mem_of_getElem? (i := 237) rfl)) (by decide +kernel)
theorem bl_L_12 : Cond.methodLink RL 12 yX8_init ∈ zTb := zTb_in (tbq4 (List.mem_of_getElem? (i := 24) rfl)) (by decide +kernel)
theorem bo_X8 : Cond.methodLink RX8 1 Lib.objectInit ∈ zTb := zTb_in (tbq4 (List.mem_of_getElem? (i := 27) rfl)) (by decide +kernel)
theorem bo_1 : Cond.instanceMethod Lib.objectInit ∈ zTb := zTb_in (tbq1 (List.mem_of_getElem? (i := 24) rfl)) (by decide +kernel)
theorem bo_2 : Cond.code Lib.objectInit ⟨#[0xb1]⟩ 1 none ∈ zTb := zTb_in (tbq1 (List.mem_of_getElem? (i := 25) rfl)) (by decide +kernel)
theorem bc_L_7 : Cond.classLink RL 7 RX7 ∈ zTb := zTb_in (tbq1 (List.mem_of_getElem? (i := 18) rfl)) (by decide +kernel)
theorem bc_X7_7 : Cond.classLink RX7 7 RX6 ∈ zTb := zTb_in (tbq1 (List.mem_of_getElem? (i := 26) rfl)) (by decide +kernel)
theorem bc_X6_9 : Cond.classLink RX6 9 RX1 ∈ zTb := zTb_in (tbq1 (List.mem_of_getElem? (i := 32) rfl)) (by decide +kernel)
theorem bc_X1_9 : Cond.classLink RX1 9 RX4 ∈ zTb := zTb_in (tbq1 (List.mem_of_getElem? (i := 38) rfl)) (by decide +kernel)
theorem ba_int : Cond.arrayClass .int ∈ zTb := zTb_in (tbq1 (List.mem_of_getElem? (i := 66) rfl)) (by decide +kernel)
theorem bc_X6_18 : Cond.classLink RX6 18 RX5 ∈ zTb := zTb_in (tbq1 (List.mem_of_getElem? (i := 101) rfl)) (by decide +kernel)
theorem bc_X7_19 : Cond.classLink RX7 19 RX3 ∈ zTb := zTb_in (tbq1 (List.mem_of_getElem? (i := 169) rfl)) (by decide +kernel)
theorem bc_X3_15 : Cond.classLink RX3 15 RX1 ∈ zTb := zTb_in (tbq1 (List.mem_of_getElem? (i := 175) rfl)) (by decide +kernel)
theorem bc_X3_22 : Cond.classLink RX3 22 RX5 ∈ zTb := zTb_in (tbq1 (List.mem_of_getElem? (i := 177) rfl)) (by decide +kernel)
theorem ba_char : Cond.arrayClass .char ∈ zTb := zTb_in (tbq1 (List.mem_of_getElem? (i := 200) rfl)) (by decide +kernel)
theorem bc_X7_26 : Cond.classLink RX7 26 RX0 ∈ zTb := zTb_in (tbq1 (List.mem_of_getElem? (i := 201) rfl)) (by decide +kernel)
theorem bc_X0_9 : Cond.classLink RX0 9 RX1 ∈ zTb := zTb_in (tbq1 (List.mem_of_getElem? (i := 207) rfl)) (by decide +kernel)
theorem bc_X0_18 : Cond.classLink RX0 18 RX5 ∈ zTb := zTb_in (tbq1 (List.mem_of_getElem? (i := 209) rfl)) (by decide +kernel)
theorem bc_X7_33 : Cond.classLink RX7 33 RX2 ∈ zTb := zTb_in (tbq1 (List.mem_of_getElem? (i := 231) rfl)) (by decide +kernel)
theorem ba_long : Cond.arrayClass .long ∈ zTb := zTb_in (tbq2 (List.mem_of_getElem? (i := 15) rfl)) (by decide +kernel)
theorem bc_L_10 : Cond.classLink RL 10 RX8 ∈ zTb := zTb_in (tbq4 (List.mem_of_getElem? (i := 22) rfl)) (by decide +kernel)
/-- a loop that fills a row of references with new objects: k are in -/
def loS (b : Nat → va_E) (a : Nat) (cA : ClassId) (N sz m st : Nat) (ch : Nat → va_E) (k : Nat) : Nat → va_E := fun j => if j = a then .inl (cA, N, .inr (.inr (.inr (.inr (fun q => if q < k then some (sz + (m + st * q)) else none))))) else if m ≤ j ∧ j < m + st * k then ch j else b j
theorem loS_a {b : Nat → va_E} {a : Nat} {cA : ClassId} {N sz m st : Nat} {ch : Nat → va_E} {k : Nat} : loS b a cA N sz m st ch k a = .inl (cA, N, .inr (.inr (.inr (.inr (fun q => if q < k then some (sz + (m + st * q)) else none))))) := if_pos rfl
theorem loS_lo {b : Nat → va_E} {a : Nat} {cA : ClassId} {N sz m st : Nat} {ch : Nat → va_E} {k j : Nat} (h : j ≠ a) (h2 : j < m) : loS b a cA N sz m st ch k j = b j := by
  unfold loS
  rw [if_neg h, if_neg (by omega)]
theorem loS_0 {b : Nat → va_E} {a : Nat} {cA : ClassId} {N sz m st : Nat} {ch : Nat → va_E} (h : b a = .inl (cA, N, .inr (.inr (.inr (.inr (fun _ => none)))))) : ∀ j, b j = loS b a cA N sz m st ch 0 j := by
  intro j
  unfold loS
  by_cases e : j = a
  · subst e
    rw [if_pos rfl, h]
    simp
  · rw [if_neg e, if_neg (by omega)]
theorem loR_s {sz m st k : Nat} : va_up (fun q => if q < k then some (sz + (m + st * q)) else none) k (some (sz + (m + st * k))) = (fun q => if q < k + 1 then some (sz + (m + st * q)) else none) := by
  funext q
  unfold va_up
  by_cases e : q = k
  · subst e
    rw [if_pos rfl, if_pos (by omega)]
  · rw [if_neg e]
    dsimp only
    by_cases h : q < k
    · rw [if_pos h, if_pos (by omega)]
    · rw [if_neg h, if_neg (by omega)]
/-- a step of it: the child's cells stand in h -/
theorem loS_s {b h : Nat → va_E} {a : Nat} {cA : ClassId} {N sz m st : Nat} {ch : Nat → va_E} {k : Nat} (ha : a < m) (h1 : ∀ j, j < m + st * k → h j = loS b a cA N sz m st ch k j) (h2 : ∀ j, m + st * k ≤ j → j < m + st * (k + 1) → h j = ch j) : ∀ j, j < m + st * (k + 1) → va_up h a (.inl (cA, N, .inr (.inr (.inr (.inr (va_up (fun q => if q < k then some (sz + (m + st * q)) else none) k (some (sz + (m + st * k))))))))) j = loS b a cA N sz m st ch (k + 1) j := by
  intro j hj
  rw [loR_s]
  have hm : st * k ≤ st * (k + 1) := Nat.mul_le_mul_left _ (by omega)
  by_cases e : j = a
  · subst e
    rw [va_up_self, loS_a]
  · rw [va_up_ne _ _ e]
    unfold loS
    rw [if_neg e]
    rcases Nat.lt_or_ge j (m + st * k) with q | q
    · rw [h1 j q]
      unfold loS
      rw [if_neg e]
      by_cases z : m ≤ j
      · rw [if_pos ⟨z, q⟩, if_pos ⟨z, hj⟩]
      · rw [if_neg (fun y => z y.1), if_neg (fun y => z y.1)]
    · rw [h2 j q hj, if_pos ⟨by omega, hj⟩]
def tX4 (w : zE) (sz i : Nat) (f : Nat → va_E) : Nat → va_E := f
theorem tX4_lo {w : zE} {sz i j : Nat} {f : Nat → va_E} (h : j < i) : tX4 w sz i f j = f j := by
  rfl
theorem tX4_at {w : zE} {sz i : Nat} {f : Nat → va_E} (h0 : f i = .inr (4, [.int 0, .int 0, .int 0, .int 0])) : tX4 w sz i f i = .inr (4, [.int 0, .int 0, .int 0, .int 0]) := by
  exact h0
set_option maxHeartbeats 4000000 in
theorem c_X4_init (l : Launch) (w : zE) (sz i : Nat) (f : Nat → va_E) (h0 : f i = .inr (4, [.int 0, .int 0, .int 0, .int 0])) : bC l w sz yX4_init cX4_init 1 1 [.ref (sz + i)] (i + 1) f 0 0 (tX4 w sz i f) := by
  refine bC_of zm_X4_init rfl [some (.ref (sz + i))] rfl (by decide) (fun g hg hR hI F X => ?_)
  subst hg
  refine b_aload F dX4_init_0 rfl ?_
  refine b_obj F bo_X4 bo_1 bo_2 dX4_init_1 (by decide) ?_
  exact b_vret F X dX4_init_4 (fun _ _ => rfl)
def tX5 (w : zE) (sz i : Nat) (f : Nat → va_E) : Nat → va_E := (va_up (va_up (va_up (va_up f i (.inr (5, [.int (-4), .int 0, .int 0, .int 0, .int 0, .int 0, .null]))) i (.inr (5, [.int (-4), .int 0, .int 0, .int 0, .int 0, .int (-4), .null]))) (i + 1) (.inl (w.2.1 1, 9, .inl (fun _ => 0)))) i (.inr (5, [.int (-4), .int 0, .int 0, .int 0, .int 0, .int (-4), .ref (sz + (i + 1))])))
theorem tX5_lo {w : zE} {sz i j : Nat} {f : Nat → va_E} (h : j < i) : tX5 w sz i f j = f j := by
  unfold tX5
  rw [va_up_ne _ _ (show j ≠ i by omega)]
  rw [va_up_ne _ _ (show j ≠ (i + 1) by omega)]
  rw [va_up_ne _ _ (show j ≠ i by omega)]
  rw [va_up_ne _ _ (show j ≠ i by omega)]
theorem tX5_at {w : zE} {sz i : Nat} {f : Nat → va_E} (h0 : f i = .inr (5, [.int 0, .int 0, .int 0, .int 0, .int 0, .int 0, .null])) : tX5 w sz i f i = .inr (5, [.int (-4), .int 0, .int 0, .int 0, .int 0, .int (-4), .ref (sz + (i + 1))]) := by
  exact (va_up_self _ _ _)
theorem tX5_1 {w : zE} {sz i : Nat} {f : Nat → va_E} : tX5 w sz i f (i + 1) = .inl (w.2.1 1, 9, .inl (fun _ => 0)) := by
  unfold tX5
  rw [va_up_ne _ _ (show i + 1 ≠ i by omega), va_up_self]
set_option maxHeartbeats 4000000 in
theorem c_X5_init (l : Launch) (w : zE) (sz i : Nat) (f : Nat → va_E) (h0 : f i = .inr (5, [.int 0, .int 0, .int 0, .int 0, .int 0, .int 0, .null])) : bC l w sz yX5_init cX5_init 1 1 [.ref (sz + i)] (i + 1) f 1 9 (tX5 w sz i f) := by
  refine bC_of zm_X5_init rfl [some (.ref (sz + i))] rfl (by decide) (fun g hg hR hI F X => ?_)
  subst hg
  refine b_aload F dX5_init_0 rfl ?_
  refine b_obj F bo_X5 bo_1 bo_2 dX5_init_1 (by decide) ?_
  refine b_aload F dX5_init_4 rfl ?_
  refine b_bipush (v := -4) F dX5_init_5 (by decide) ?_
  refine b_put (j := 0) F (by omega) (h0) rfl izX5 tyX5_ok nmX5 (by decide) rfl rfl fl_X5_9 rfl rfl rfl (Nat.le_of_ble_eq_true rfl) dX5_init_7 ?_
  refine b_aload F dX5_init_10 rfl ?_
  refine b_bipush (v := -4) F dX5_init_11 (by decide) ?_
  refine b_put (j := 5) F (by omega) ((va_up_self _ _ _)) rfl izX5 tyX5_ok nmX5 (by decide) rfl rfl fl_X5_15 rfl rfl rfl (Nat.le_of_ble_eq_true rfl) dX5_init_13 ?_
  refine b_aload F dX5_init_16 rfl ?_
  refine b_bipush (v := 9) F dX5_init_17 (by decide) ?_
  refine b_newa (N' := 9) (atype := .int) (ty := .int) (a0 := (9, .inl (fun _ => 0))) (t0 := 1) (j := (i + 1)) F ba_int rfl id (fun _ h => h) rfl (fun _ => rfl) (by decide) (by decide) (by decide) (by rw [hR]; show 0 + 1 ≤ 1; decide) (by rw [hR]; show 0 + 9 ≤ 9; decide) (by omega) dX5_init_19 ?_
  refine b_putF (j := 6) F hI (by omega) (((va_up_ne _ _ (show i ≠ (i + 1) by omega)).trans (va_up_self _ _ _))) rfl izX5 tyX5_ok nmX5 (by decide) rfl rfl fl_X5_18 rfl rfl rfl (Nat.le_of_ble_eq_true rfl) dX5_init_21 ?_
  exact b_vret F X dX5_init_24 (fun _ _ => rfl)
def tX2 (w : zE) (sz i : Nat) (f : Nat → va_E) : Nat → va_E := (va_up (va_up f (i + 1) (.inl (w.2.1 2, 16, .inr (.inl (fun _ => 0))))) i (.inr (2, [.int 0, .int 0, .int 0, .ref (sz + (i + 1))])))
theorem tX2_lo {w : zE} {sz i j : Nat} {f : Nat → va_E} (h : j < i) : tX2 w sz i f j = f j := by
  unfold tX2
  rw [va_up_ne _ _ (show j ≠ i by omega)]
  rw [va_up_ne _ _ (show j ≠ (i + 1) by omega)]
theorem tX2_at {w : zE} {sz i : Nat} {f : Nat → va_E} (h0 : f i = .inr (2, [.int 0, .int 0, .int 0, .null])) : tX2 w sz i f i = .inr (2, [.int 0, .int 0, .int 0, .ref (sz + (i + 1))]) := by
  exact (va_up_self _ _ _)
theorem tX2_1 {w : zE} {sz i : Nat} {f : Nat → va_E} : tX2 w sz i f (i + 1) = .inl (w.2.1 2, 16, .inr (.inl (fun _ => 0))) := by
  unfold tX2
  rw [va_up_ne _ _ (show i + 1 ≠ i by omega), va_up_self]
set_option maxHeartbeats 4000000 in
theorem c_X2_init (l : Launch) (w : zE) (sz i : Nat) (f : Nat → va_E) (h0 : f i = .inr (2, [.int 0, .int 0, .int 0, .null])) : bC l w sz yX2_init cX2_init 1 1 [.ref (sz + i)] (i + 1) f 1 16 (tX2 w sz i f) := by
  refine bC_of zm_X2_init rfl [some (.ref (sz + i))] rfl (by decide) (fun g hg hR hI F X => ?_)
  subst hg
  refine b_aload F dX2_init_0 rfl ?_
  refine b_obj F bo_X2 bo_1 bo_2 dX2_init_1 (by decide) ?_
  refine b_aload F dX2_init_4 rfl ?_
  refine b_bipush (v := 16) F dX2_init_5 (by decide) ?_
  refine b_newa (N' := 16) (atype := .long) (ty := .long) (a0 := (16, .inr (.inl (fun _ => 0)))) (t0 := 2) (j := (i + 1)) F ba_long rfl id (fun _ h => h) rfl (fun _ => rfl) (by decide) (by decide) (by decide) (by rw [hR]; show 0 + 1 ≤ 1; decide) (by rw [hR]; show 0 + 16 ≤ 16; decide) (by omega) dX2_init_7 ?_
  refine b_putF (j := 3) F hI (by omega) (((va_up_ne _ _ (show i ≠ (i + 1) by omega)).trans h0)) rfl izX2 tyX2_ok nmX2 (by decide) rfl rfl fl_X2_9 rfl rfl rfl (Nat.le_of_ble_eq_true rfl) dX2_init_9 ?_
  exact b_vret F X dX2_init_12 (fun _ _ => rfl)
def hX1 (w : zE) (sz i : Nat) : Nat → va_E := (fun _ => .inr (4, [.int 0, .int 0, .int 0, .int 0]))
def tX1 (w : zE) (sz i : Nat) (f : Nat → va_E) : Nat → va_E := (loS (va_up (va_up (va_up (va_up (va_up (va_up (va_up (va_up f (i + 1) (.inl (w.2.1 4, 10, .inr (.inr (.inr (.inr (fun _ => none))))))) i (.inr (1, [.ref (sz + (i + 1)), .int 0, .null, .null, .int 0, .int 0, .int 0]))) (i + 2) (.inl (w.2.1 1, 9, .inl (fun _ => 0)))) i (.inr (1, [.ref (sz + (i + 1)), .int 0, .ref (sz + (i + 2)), .null, .int 0, .int 0, .int 0]))) (i + 3) (.inl (w.2.1 1, 9, .inl (fun _ => 0)))) i (.inr (1, [.ref (sz + (i + 1)), .int 0, .ref (sz + (i + 2)), .ref (sz + (i + 3)), .int 0, .int 0, .int 0]))) i (.inr (1, [.ref (sz + (i + 1)), .int 0, .ref (sz + (i + 2)), .ref (sz + (i + 3)), .int 0, .int (99), .int 0]))) i (.inr (1, [.ref (sz + (i + 1)), .int 0, .ref (sz + (i + 2)), .ref (sz + (i + 3)), .int 0, .int (99), .int (-4)]))) (i + 1) (w.2.1 4) 10 sz (i + 4) 1 (hX1 w sz i) 10)
set_option maxHeartbeats 4000000 in
theorem lo_X1 {w : zE} {sz i : Nat} {g : zG} {b : Nat → va_E} (F : bF w sz (i + 1) g RX1 cX1_init 2 2) (hR : g.1.2.2.2 = bR 2 13 68) (hb : b i = .inr (1, [.ref (sz + (i + 1)), .int 0, .ref (sz + (i + 2)), .ref (sz + (i + 3)), .int 0, .int (99), .int (-4)])) (K : BW w sz (i + 1) g 2 71 [some (.ref (sz + i)), some (.int (nI 10))] [] (loS b (i + 1) (w.2.1 4) 10 sz (i + 4) 1 (hX1 w sz i) 10) 13 68) : ∀ (r k : Nat), k + r = 10 → BW w sz (i + 1) g 2 43 [some (.ref (sz + i)), some (.int (nI k))] [] (loS b (i + 1) (w.2.1 4) 10 sz (i + 4) 1 (hX1 w sz i) k) (3 + 1 * k) (28 + 4 * k) := by
  intro r
  induction r with
  | zero =>
    intro k hk
    have hi : (loS b (i + 1) (w.2.1 4) 10 sz (i + 4) 1 (hX1 w sz i) k) i = _ := (loS_lo (show i ≠ (i + 1) by omega) (show i < (i + 4) by omega)).trans hb
    obtain rfl : k = 10 := by omega
    refine b_iload F dX1_init_43 rfl ?_
    refine b_aload F dX1_init_44 rfl ?_
    refine b_get (j := 0) F (by omega) hi rfl izX1 (by decide) rfl fl_X1_11 rfl dX1_init_45 ?_
    refine b_alen (t0 := 4) (v := nI 10) F (by omega) loS_a rfl rfl dX1_init_48 ?_
    exact b_ge (tgt := 71) F dX1_init_49 (by decide) (fun _ => K) (fun h => absurd h (by decide))
  | succ r ih =>
    intro k hk
    have hk2 : k < 10 := by omega
    have hi : (loS b (i + 1) (w.2.1 4) 10 sz (i + 4) 1 (hX1 w sz i) k) i = _ := (loS_lo (show i ≠ (i + 1) by omega) (show i < (i + 4) by omega)).trans hb
    refine b_iload F dX1_init_43 rfl ?_
    refine b_aload F dX1_init_44 rfl ?_
    refine b_get (j := 0) F (by omega) hi rfl izX1 (by decide) rfl fl_X1_11 rfl dX1_init_45 ?_
    refine b_alen (t0 := 4) (v := nI 10) F (by omega) loS_a rfl rfl dX1_init_48 ?_
    refine b_ge (tgt := 71) F dX1_init_49 (by decide) (fun h => absurd h (nI_ge hk2 (by decide))) (fun _ => ?_)
    refine b_aload F dX1_init_52 rfl ?_
    refine b_get (j := 0) F (by omega) hi rfl izX1 (by decide) rfl fl_X1_11 rfl dX1_init_53 ?_
    refine b_iload F dX1_init_56 rfl ?_
    refine b_new (ci := 4) (fs := [.int 0, .int 0, .int 0, .int 0]) (j := ((i + 4) + 1 * k)) F bc_X1_9 bi_X4 bj_X4 izX4 tyX4 tyX4_ok rfl bd_X4 (by rw [hR]; show 3 + 1 * k + 1 ≤ 13; omega) (by rw [hR]; show 28 + 4 * k + 4 ≤ 68; omega) (by omega) dX1_init_57 ?_
    refine b_dup F dX1_init_60 rfl ?_
    refine b_callN F (c_X4_init (g.1.2.1) w sz ((i + 4) + 1 * k) _ (va_up_self _ _ _)) (by omega) zm_X4_init bm_X4 rfl F.2.2.2.2.2.2.2.2.2.2.2.1 (Nat.le_of_ble_eq_true rfl) dX1_init_61 (by decide) (by rw [hR]; show 3 + 1 * k + 1 + 0 ≤ 13; omega) (by rw [hR]; show 28 + 4 * k + 4 + 0 ≤ 68; omega) ?_
    refine b_astq (t0 := 4) (ci := 4) F (by omega) ((tX4_lo (show (i + 1) < ((i + 4) + 1 * k) by omega)).trans ((va_up_ne _ _ (show (i + 1) ≠ ((i + 4) + 1 * k) by omega)).trans loS_a)) rfl (by omega) (tX4_at (va_up_self _ _ _)) rfl (vp_in_nI hk2 (by decide)) dX1_init_64 ?_
    rw [nI_clamp (show k < 2 ^ 31 by omega)]
    refine b_ext (f' := (loS b (i + 1) (w.2.1 4) 10 sz (i + 4) 1 (hX1 w sz i) (k + 1))) (fun j hj => loS_s (by omega) (fun j h => (tX4_lo h).trans (va_up_ne _ _ (by omega))) (fun j h1 h2 => ?_) j (by omega)) ?_
    · obtain rfl : j = ((i + 4) + 1 * k) := by omega
      exact va_up_self _ _ _
    refine b_iinc F dX1_init_65 rfl (nI_1 k) (by decide) rfl rfl ?_
    refine b_goto (tgt := 43) F dX1_init_68 (by decide) ?_
    have q := ih (k + 1) (by omega)
    rw [show 3 + 1 * (k + 1) = 3 + 1 * k + 1 + 0 by omega, show 28 + 4 * (k + 1) = 28 + 4 * k + 4 + 0 by omega] at q
    exact q
theorem tX1_lo {w : zE} {sz i j : Nat} {f : Nat → va_E} (h : j < i) : tX1 w sz i f j = f j := by
  unfold tX1
  rw [loS_lo (show j ≠ (i + 1) by omega) (show j < (i + 4) by omega)]
  rw [va_up_ne _ _ (show j ≠ i by omega)]
  rw [va_up_ne _ _ (show j ≠ i by omega)]
  rw [va_up_ne _ _ (show j ≠ i by omega)]
  rw [va_up_ne _ _ (show j ≠ (i + 3) by omega)]
  rw [va_up_ne _ _ (show j ≠ i by omega)]
  rw [va_up_ne _ _ (show j ≠ (i + 2) by omega)]
  rw [va_up_ne _ _ (show j ≠ i by omega)]
  rw [va_up_ne _ _ (show j ≠ (i + 1) by omega)]
theorem tX1_at {w : zE} {sz i : Nat} {f : Nat → va_E} (h0 : f i = .inr (1, [.null, .int 0, .null, .null, .int 0, .int 0, .int 0])) : tX1 w sz i f i = .inr (1, [.ref (sz + (i + 1)), .int 0, .ref (sz + (i + 2)), .ref (sz + (i + 3)), .int 0, .int (99), .int (-4)]) := by
  exact (loS_lo (show i ≠ (i + 1) by omega) (show i < (i + 4) by omega)).trans ((va_up_self _ _ _))
set_option maxHeartbeats 4000000 in
theorem c_X1_init (l : Launch) (w : zE) (sz i : Nat) (f : Nat → va_E) (h0 : f i = .inr (1, [.null, .int 0, .null, .null, .int 0, .int 0, .int 0])) : bC l w sz yX1_init cX1_init 2 2 [.ref (sz + i)] (i + 1) f 13 68 (tX1 w sz i f) := by
  refine bC_of zm_X1_init rfl [some (.ref (sz + i)), none] rfl (by decide) (fun g hg hR hI F X => ?_)
  subst hg
  refine b_aload F dX1_init_0 rfl ?_
  refine b_obj F bo_X1 bo_1 bo_2 dX1_init_1 (by decide) ?_
  refine b_aload F dX1_init_4 rfl ?_
  refine b_bipush (v := 10) F dX1_init_5 (by decide) ?_
  refine b_newq (N' := 10) (t0 := 4) (j := (i + 1)) F bc_X1_9 F.2.2.2.2.2.2.2.2.2.2.1.1 rfl (by decide) (by decide) (by decide) (by rw [hR]; show 0 + 1 ≤ 13; decide) (by rw [hR]; show 0 + 10 ≤ 68; decide) (by omega) dX1_init_7 ?_
  refine b_putF (j := 0) F hI (by omega) (((va_up_ne _ _ (show i ≠ (i + 1) by omega)).trans h0)) rfl izX1 tyX1_ok nmX1 (by decide) rfl rfl fl_X1_11 rfl rfl rfl (Nat.le_of_ble_eq_true rfl) dX1_init_10 ?_
  refine b_aload F dX1_init_13 rfl ?_
  refine b_bipush (v := 9) F dX1_init_14 (by decide) ?_
  refine b_newa (N' := 9) (atype := .int) (ty := .int) (a0 := (9, .inl (fun _ => 0))) (t0 := 1) (j := (i + 2)) F ba_int rfl id (fun _ h => h) rfl (fun _ => rfl) (by decide) (by decide) (by decide) (by rw [hR]; show 1 + 1 ≤ 13; decide) (by rw [hR]; show 10 + 9 ≤ 68; decide) (by omega) dX1_init_16 ?_
  refine b_putF (j := 2) F hI (by omega) (((va_up_ne _ _ (show i ≠ (i + 2) by omega)).trans (va_up_self _ _ _))) rfl izX1 tyX1_ok nmX1 (by decide) rfl rfl fl_X1_17 rfl rfl rfl (Nat.le_of_ble_eq_true rfl) dX1_init_18 ?_
  refine b_aload F dX1_init_21 rfl ?_
  refine b_bipush (v := 9) F dX1_init_22 (by decide) ?_
  refine b_newa (N' := 9) (atype := .int) (ty := .int) (a0 := (9, .inl (fun _ => 0))) (t0 := 1) (j := (i + 3)) F ba_int rfl id (fun _ h => h) rfl (fun _ => rfl) (by decide) (by decide) (by decide) (by rw [hR]; show 2 + 1 ≤ 13; decide) (by rw [hR]; show 19 + 9 ≤ 68; decide) (by omega) dX1_init_24 ?_
  refine b_putF (j := 3) F hI (by omega) (((va_up_ne _ _ (show i ≠ (i + 3) by omega)).trans (va_up_self _ _ _))) rfl izX1 tyX1_ok nmX1 (by decide) rfl rfl fl_X1_21 rfl rfl rfl (Nat.le_of_ble_eq_true rfl) dX1_init_26 ?_
  refine b_aload F dX1_init_29 rfl ?_
  refine b_bipush (v := 99) F dX1_init_30 (by decide) ?_
  refine b_put (j := 5) F (by omega) ((va_up_self _ _ _)) rfl izX1 tyX1_ok nmX1 (by decide) rfl rfl fl_X1_24 rfl rfl rfl (Nat.le_of_ble_eq_true rfl) dX1_init_32 ?_
  refine b_aload F dX1_init_35 rfl ?_
  refine b_bipush (v := -4) F dX1_init_36 (by decide) ?_
  refine b_put (j := 6) F (by omega) ((va_up_self _ _ _)) rfl izX1 tyX1_ok nmX1 (by decide) rfl rfl fl_X1_28 rfl rfl rfl (Nat.le_of_ble_eq_true rfl) dX1_init_38 ?_
  refine b_iconst (v := nI 0) F dX1_init_41 (by decide) ?_
  refine b_istore F dX1_init_42 (by decide) rfl rfl ?_
  refine b_ext (f' := (loS _ (i + 1) (w.2.1 4) 10 sz (i + 4) 1 (hX1 w sz i) 0)) (fun j _ => loS_0 (m := (i + 4)) (st := 1) (ch := hX1 w sz i) (sz := sz) (((va_up_ne _ _ (show (i + 1) ≠ i by omega)).trans ((va_up_ne _ _ (show (i + 1) ≠ i by omega)).trans ((va_up_ne _ _ (show (i + 1) ≠ i by omega)).trans ((va_up_ne _ _ (show (i + 1) ≠ (i + 3) by omega)).trans ((va_up_ne _ _ (show (i + 1) ≠ i by omega)).trans ((va_up_ne _ _ (show (i + 1) ≠ (i + 2) by omega)).trans ((va_up_ne _ _ (show (i + 1) ≠ i by omega)).trans (va_up_self _ _ _))))))))) j) ?_
  refine lo_X1 F hR ?_ ?_ 10 0 rfl
  · exact (va_up_self _ _ _)
  · exact b_vret F X dX1_init_71 (fun _ _ => rfl)
def tX3 (w : zE) (sz i : Nat) (f : Nat → va_E) : Nat → va_E := (va_up (tX5 w sz (i + 16) (va_up (va_up (tX1 w sz (i + 2) (va_up (va_up (va_up f (i + 1) (.inl (w.2.1 0, 120, .inl (fun _ => 0)))) i (.inr (3, [.ref (sz + (i + 1)), .int 0, .int 0, .null, .null]))) (i + 2) (.inr (1, [.null, .int 0, .null, .null, .int 0, .int 0, .int 0])))) i (.inr (3, [.ref (sz + (i + 1)), .int 0, .int 0, .ref (sz + (i + 2)), .null]))) (i + 16) (.inr (5, [.int 0, .int 0, .int 0, .int 0, .int 0, .int 0, .null])))) i (.inr (3, [.ref (sz + (i + 1)), .int 0, .int 0, .ref (sz + (i + 2)), .ref (sz + (i + 16))])))
theorem tX3_lo {w : zE} {sz i j : Nat} {f : Nat → va_E} (h : j < i) : tX3 w sz i f j = f j := by
  unfold tX3
  rw [va_up_ne _ _ (show j ≠ i by omega)]
  rw [tX5_lo (show j < (i + 16) by omega)]
  rw [va_up_ne _ _ (show j ≠ (i + 16) by omega)]
  rw [va_up_ne _ _ (show j ≠ i by omega)]
  rw [tX1_lo (show j < (i + 2) by omega)]
  rw [va_up_ne _ _ (show j ≠ (i + 2) by omega)]
  rw [va_up_ne _ _ (show j ≠ i by omega)]
  rw [va_up_ne _ _ (show j ≠ (i + 1) by omega)]
theorem tX3_at {w : zE} {sz i : Nat} {f : Nat → va_E} (h0 : f i = .inr (3, [.null, .int 0, .int 0, .null, .null])) : tX3 w sz i f i = .inr (3, [.ref (sz + (i + 1)), .int 0, .int 0, .ref (sz + (i + 2)), .ref (sz + (i + 16))]) := by
  exact (va_up_self _ _ _)
set_option maxHeartbeats 4000000 in
theorem c_X3_init (l : Launch) (w : zE) (sz i : Nat) (f : Nat → va_E) (h0 : f i = .inr (3, [.null, .int 0, .int 0, .null, .null])) : bC l w sz yX3_init cX3_init 1 3 [.ref (sz + i)] (i + 1) f 17 211 (tX3 w sz i f) := by
  refine bC_of zm_X3_init rfl [some (.ref (sz + i))] rfl (by decide) (fun g hg hR hI F X => ?_)
  subst hg
  refine b_aload F dX3_init_0 rfl ?_
  refine b_obj F bo_X3 bo_1 bo_2 dX3_init_1 (by decide) ?_
  refine b_aload F dX3_init_4 rfl ?_
  refine b_bipush (v := 120) F dX3_init_5 (by decide) ?_
  refine b_newa (N' := 120) (atype := .char) (ty := .char) (a0 := (120, .inl (fun _ => 0))) (t0 := 0) (j := (i + 1)) F ba_char rfl id (fun _ h => h) rfl (fun _ => rfl) (by decide) (by decide) (by decide) (by rw [hR]; show 0 + 1 ≤ 17; decide) (by rw [hR]; show 0 + 120 ≤ 211; decide) (by omega) dX3_init_7 ?_
  refine b_putF (j := 0) F hI (by omega) (((va_up_ne _ _ (show i ≠ (i + 1) by omega)).trans h0)) rfl izX3 tyX3_ok nmX3 (by decide) rfl rfl fl_X3_9 rfl rfl rfl (Nat.le_of_ble_eq_true rfl) dX3_init_9 ?_
  refine b_aload F dX3_init_12 rfl ?_
  refine b_new (ci := 1) (fs := [.null, .int 0, .null, .null, .int 0, .int 0, .int 0]) (j := (i + 2)) F bc_X3_15 bi_X1 bj_X1 izX1 tyX1 tyX1_ok rfl bd_X1 (by rw [hR]; show 1 + 1 ≤ 17; decide) (by rw [hR]; show 120 + 7 ≤ 211; decide) (by omega) dX3_init_13 ?_
  refine b_dup F dX3_init_16 rfl ?_
  refine b_callI F (c_X1_init (g.1.2.1) w sz (i + 2) _ ((va_up_self _ _ _))) (by omega) zm_X1_init bm_X1 rfl bl_X3_17 (Nat.le_of_ble_eq_true rfl) dX3_init_17 (by decide) (by rw [hR]; show 2 + 13 ≤ 17; decide) (by rw [hR]; show 127 + 68 ≤ 211; decide) ?_
  refine b_putF (j := 3) F hI (by omega) (((tX1_lo (show i < (i + 2) by omega)).trans ((va_up_ne _ _ (show i ≠ (i + 2) by omega)).trans (va_up_self _ _ _)))) rfl izX3 tyX3_ok nmX3 (by decide) rfl rfl fl_X3_18 rfl rfl rfl (Nat.le_of_ble_eq_true rfl) dX3_init_20 ?_
  refine b_aload F dX3_init_23 rfl ?_
  refine b_new (ci := 5) (fs := [.int 0, .int 0, .int 0, .int 0, .int 0, .int 0, .null]) (j := (i + 16)) F bc_X3_22 bi_X5 bj_X5 izX5 tyX5 tyX5_ok rfl bd_X5 (by rw [hR]; show 15 + 1 ≤ 17; decide) (by rw [hR]; show 195 + 7 ≤ 211; decide) (by omega) dX3_init_24 ?_
  refine b_dup F dX3_init_27 rfl ?_
  refine b_callN F (c_X5_init (g.1.2.1) w sz (i + 16) _ ((va_up_self _ _ _))) (by omega) zm_X5_init bm_X5 rfl F.2.2.2.2.2.2.2.2.2.2.2.2.2.2.1 (Nat.le_of_ble_eq_true rfl) dX3_init_28 (by decide) (by rw [hR]; show 16 + 1 ≤ 17; decide) (by rw [hR]; show 202 + 9 ≤ 211; decide) ?_
  refine b_putF (j := 4) F hI (by omega) (((tX5_lo (show i < (i + 16) by omega)).trans ((va_up_ne _ _ (show i ≠ (i + 16) by omega)).trans (va_up_self _ _ _)))) rfl izX3 tyX3_ok nmX3 (by decide) rfl rfl fl_X3_25 rfl rfl rfl (Nat.le_of_ble_eq_true rfl) dX3_init_31 ?_
  exact b_vret F X dX3_init_34 (fun _ _ => rfl)
def hX6 (w : zE) (sz i : Nat) : Nat → va_E := (fun j => if (j - (i + 18)) % 2 = 0 then .inr (5, [.int (-4), .int 0, .int 0, .int 0, .int 0, .int (-4), .ref (sz + (j + 1))]) else .inl (w.2.1 1, 9, .inl (fun _ => 0)))
def tX6 (w : zE) (sz i : Nat) (f : Nat → va_E) : Nat → va_E := (loS (va_up (va_up (va_up (tX5 w sz (i + 15) (va_up (va_up (tX1 w sz (i + 1) (va_up f (i + 1) (.inr (1, [.null, .int 0, .null, .null, .int 0, .int 0, .int 0])))) i (.inr (6, [.ref (sz + (i + 1)), .null, .null, .int 0]))) (i + 15) (.inr (5, [.int 0, .int 0, .int 0, .int 0, .int 0, .int 0, .null])))) i (.inr (6, [.ref (sz + (i + 1)), .ref (sz + (i + 15)), .null, .int 0]))) (i + 17) (.inl (w.2.1 5, 8, .inr (.inr (.inr (.inr (fun _ => none))))))) i (.inr (6, [.ref (sz + (i + 1)), .ref (sz + (i + 15)), .ref (sz + (i + 17)), .int 0]))) (i + 17) (w.2.1 5) 8 sz (i + 18) 2 (hX6 w sz i) 8)
set_option maxHeartbeats 4000000 in
theorem lo_X6 {w : zE} {sz i : Nat} {g : zG} {b : Nat → va_E} (F : bF w sz (i + 1) g RX6 cX6_init 2 3) (hR : g.1.2.2.2 = bR 3 33 227) (hb : b i = .inr (6, [.ref (sz + (i + 1)), .ref (sz + (i + 15)), .ref (sz + (i + 17)), .int 0])) (K : BW w sz (i + 1) g 2 65 [some (.ref (sz + i)), some (.int (nI 8))] [] (loS b (i + 17) (w.2.1 5) 8 sz (i + 18) 2 (hX6 w sz i) 8) 33 227) : ∀ (r k : Nat), k + r = 8 → BW w sz (i + 1) g 2 37 [some (.ref (sz + i)), some (.int (nI k))] [] (loS b (i + 17) (w.2.1 5) 8 sz (i + 18) 2 (hX6 w sz i) k) (17 + 2 * k) (99 + 16 * k) := by
  intro r
  induction r with
  | zero =>
    intro k hk
    have hi : (loS b (i + 17) (w.2.1 5) 8 sz (i + 18) 2 (hX6 w sz i) k) i = _ := (loS_lo (show i ≠ (i + 17) by omega) (show i < (i + 18) by omega)).trans hb
    obtain rfl : k = 8 := by omega
    refine b_iload F dX6_init_37 rfl ?_
    refine b_aload F dX6_init_38 rfl ?_
    refine b_get (j := 2) F (by omega) hi rfl izX6 (by decide) rfl fl_X6_25 rfl dX6_init_39 ?_
    refine b_alen (t0 := 5) (v := nI 8) F (by omega) loS_a rfl rfl dX6_init_42 ?_
    exact b_ge (tgt := 65) F dX6_init_43 (by decide) (fun _ => K) (fun h => absurd h (by decide))
  | succ r ih =>
    intro k hk
    have hk2 : k < 8 := by omega
    have hi : (loS b (i + 17) (w.2.1 5) 8 sz (i + 18) 2 (hX6 w sz i) k) i = _ := (loS_lo (show i ≠ (i + 17) by omega) (show i < (i + 18) by omega)).trans hb
    refine b_iload F dX6_init_37 rfl ?_
    refine b_aload F dX6_init_38 rfl ?_
    refine b_get (j := 2) F (by omega) hi rfl izX6 (by decide) rfl fl_X6_25 rfl dX6_init_39 ?_
    refine b_alen (t0 := 5) (v := nI 8) F (by omega) loS_a rfl rfl dX6_init_42 ?_
    refine b_ge (tgt := 65) F dX6_init_43 (by decide) (fun h => absurd h (nI_ge hk2 (by decide))) (fun _ => ?_)
    refine b_aload F dX6_init_46 rfl ?_
    refine b_get (j := 2) F (by omega) hi rfl izX6 (by decide) rfl fl_X6_25 rfl dX6_init_47 ?_
    refine b_iload F dX6_init_50 rfl ?_
    refine b_new (ci := 5) (fs := [.int 0, .int 0, .int 0, .int 0, .int 0, .int 0, .null]) (j := ((i + 18) + 2 * k)) F bc_X6_18 bi_X5 bj_X5 izX5 tyX5 tyX5_ok rfl bd_X5 (by rw [hR]; show 17 + 2 * k + 1 ≤ 33; omega) (by rw [hR]; show 99 + 16 * k + 7 ≤ 227; omega) (by omega) dX6_init_51 ?_
    refine b_dup F dX6_init_54 rfl ?_
    refine b_callN F (c_X5_init (g.1.2.1) w sz ((i + 18) + 2 * k) _ (va_up_self _ _ _)) (by omega) zm_X5_init bm_X5 rfl F.2.2.2.2.2.2.2.2.2.2.2.2.1 (Nat.le_of_ble_eq_true rfl) dX6_init_55 (by decide) (by rw [hR]; show 17 + 2 * k + 1 + 1 ≤ 33; omega) (by rw [hR]; show 99 + 16 * k + 7 + 9 ≤ 227; omega) ?_
    refine b_astq (t0 := 5) (ci := 5) F (by omega) ((tX5_lo (show (i + 17) < ((i + 18) + 2 * k) by omega)).trans ((va_up_ne _ _ (show (i + 17) ≠ ((i + 18) + 2 * k) by omega)).trans loS_a)) rfl (by omega) (tX5_at (va_up_self _ _ _)) rfl (vp_in_nI hk2 (by decide)) dX6_init_58 ?_
    rw [nI_clamp (show k < 2 ^ 31 by omega)]
    refine b_ext (f' := (loS b (i + 17) (w.2.1 5) 8 sz (i + 18) 2 (hX6 w sz i) (k + 1))) (fun j hj => loS_s (by omega) (fun j h => (tX5_lo h).trans (va_up_ne _ _ (by omega))) (fun j h1 h2 => ?_) j (by omega)) ?_
    · rcases (show j = ((i + 18) + 2 * k) ∨ j = ((i + 18) + 2 * k) + 1 by omega) with rfl | rfl
      · rw [tX5_at (va_up_self _ _ _)]; unfold hX6; rw [if_pos (by omega)]
      · rw [tX5_1]; unfold hX6; rw [if_neg (by omega)]
    refine b_iinc F dX6_init_59 rfl (nI_1 k) (by decide) rfl rfl ?_
    refine b_goto (tgt := 37) F dX6_init_62 (by decide) ?_
    have q := ih (k + 1) (by omega)
    rw [show 17 + 2 * (k + 1) = 17 + 2 * k + 1 + 1 by omega, show 99 + 16 * (k + 1) = 99 + 16 * k + 7 + 9 by omega] at q
    exact q
theorem tX6_lo {w : zE} {sz i j : Nat} {f : Nat → va_E} (h : j < i) : tX6 w sz i f j = f j := by
  unfold tX6
  rw [loS_lo (show j ≠ (i + 17) by omega) (show j < (i + 18) by omega)]
  rw [va_up_ne _ _ (show j ≠ i by omega)]
  rw [va_up_ne _ _ (show j ≠ (i + 17) by omega)]
  rw [va_up_ne _ _ (show j ≠ i by omega)]
  rw [tX5_lo (show j < (i + 15) by omega)]
  rw [va_up_ne _ _ (show j ≠ (i + 15) by omega)]
  rw [va_up_ne _ _ (show j ≠ i by omega)]
  rw [tX1_lo (show j < (i + 1) by omega)]
  rw [va_up_ne _ _ (show j ≠ (i + 1) by omega)]
theorem tX6_at {w : zE} {sz i : Nat} {f : Nat → va_E} (h0 : f i = .inr (6, [.null, .null, .null, .int 0])) : tX6 w sz i f i = .inr (6, [.ref (sz + (i + 1)), .ref (sz + (i + 15)), .ref (sz + (i + 17)), .int 0]) := by
  exact (loS_lo (show i ≠ (i + 17) by omega) (show i < (i + 18) by omega)).trans ((va_up_self _ _ _))
set_option maxHeartbeats 4000000 in
theorem c_X6_init (l : Launch) (w : zE) (sz i : Nat) (f : Nat → va_E) (h0 : f i = .inr (6, [.null, .null, .null, .int 0])) : bC l w sz yX6_init cX6_init 2 3 [.ref (sz + i)] (i + 1) f 33 227 (tX6 w sz i f) := by
  refine bC_of zm_X6_init rfl [some (.ref (sz + i)), none] rfl (by decide) (fun g hg hR hI F X => ?_)
  subst hg
  refine b_aload F dX6_init_0 rfl ?_
  refine b_obj F bo_X6 bo_1 bo_2 dX6_init_1 (by decide) ?_
  refine b_aload F dX6_init_4 rfl ?_
  refine b_new (ci := 1) (fs := [.null, .int 0, .null, .null, .int 0, .int 0, .int 0]) (j := (i + 1)) F bc_X6_9 bi_X1 bj_X1 izX1 tyX1 tyX1_ok rfl bd_X1 (by rw [hR]; show 0 + 1 ≤ 33; decide) (by rw [hR]; show 0 + 7 ≤ 227; decide) (by omega) dX6_init_5 ?_
  refine b_dup F dX6_init_8 rfl ?_
  refine b_callI F (c_X1_init (g.1.2.1) w sz (i + 1) _ ((va_up_self _ _ _))) (by omega) zm_X1_init bm_X1 rfl bl_X6_11 (Nat.le_of_ble_eq_true rfl) dX6_init_9 (by decide) (by rw [hR]; show 1 + 13 ≤ 33; decide) (by rw [hR]; show 7 + 68 ≤ 227; decide) ?_
  refine b_putF (j := 0) F hI (by omega) (((tX1_lo (show i < (i + 1) by omega)).trans ((va_up_ne _ _ (show i ≠ (i + 1) by omega)).trans h0))) rfl izX6 tyX6_ok nmX6 (by decide) rfl rfl fl_X6_12 rfl rfl rfl (Nat.le_of_ble_eq_true rfl) dX6_init_12 ?_
  refine b_aload F dX6_init_15 rfl ?_
  refine b_new (ci := 5) (fs := [.int 0, .int 0, .int 0, .int 0, .int 0, .int 0, .null]) (j := (i + 15)) F bc_X6_18 bi_X5 bj_X5 izX5 tyX5 tyX5_ok rfl bd_X5 (by rw [hR]; show 14 + 1 ≤ 33; decide) (by rw [hR]; show 75 + 7 ≤ 227; decide) (by omega) dX6_init_16 ?_
  refine b_dup F dX6_init_19 rfl ?_
  refine b_callN F (c_X5_init (g.1.2.1) w sz (i + 15) _ ((va_up_self _ _ _))) (by omega) zm_X5_init bm_X5 rfl F.2.2.2.2.2.2.2.2.2.2.2.2.1 (Nat.le_of_ble_eq_true rfl) dX6_init_20 (by decide) (by rw [hR]; show 15 + 1 ≤ 33; decide) (by rw [hR]; show 82 + 9 ≤ 227; decide) ?_
  refine b_putF (j := 1) F hI (by omega) (((tX5_lo (show i < (i + 15) by omega)).trans ((va_up_ne _ _ (show i ≠ (i + 15) by omega)).trans (va_up_self _ _ _)))) rfl izX6 tyX6_ok nmX6 (by decide) rfl rfl fl_X6_21 rfl rfl rfl (Nat.le_of_ble_eq_true rfl) dX6_init_23 ?_
  refine b_aload F dX6_init_26 rfl ?_
  refine b_bipush (v := 8) F dX6_init_27 (by decide) ?_
  refine b_newq (N' := 8) (t0 := 5) (j := (i + 17)) F bc_X6_18 F.2.2.2.2.2.2.2.2.2.2.1.2.1 rfl (by decide) (by decide) (by decide) (by rw [hR]; show 16 + 1 ≤ 33; decide) (by rw [hR]; show 91 + 8 ≤ 227; decide) (by omega) dX6_init_29 ?_
  refine b_putF (j := 2) F hI (by omega) (((va_up_ne _ _ (show i ≠ (i + 17) by omega)).trans (va_up_self _ _ _))) rfl izX6 tyX6_ok nmX6 (by decide) rfl rfl fl_X6_25 rfl rfl rfl (Nat.le_of_ble_eq_true rfl) dX6_init_32 ?_
  refine b_iconst (v := nI 0) F dX6_init_35 (by decide) ?_
  refine b_istore F dX6_init_36 (by decide) rfl rfl ?_
  refine b_ext (f' := (loS _ (i + 17) (w.2.1 5) 8 sz (i + 18) 2 (hX6 w sz i) 0)) (fun j _ => loS_0 (m := (i + 18)) (st := 2) (ch := hX6 w sz i) (sz := sz) (((va_up_ne _ _ (show (i + 17) ≠ i by omega)).trans (va_up_self _ _ _))) j) ?_
  refine lo_X6 F hR ?_ ?_ 8 0 rfl
  · exact (va_up_self _ _ _)
  · exact b_vret F X dX6_init_65 (fun _ _ => rfl)
def hX0 (w : zE) (sz i : Nat) : Nat → va_E := (fun j => if (j - (i + 20)) % 2 = 0 then .inr (5, [.int (-4), .int 0, .int 0, .int 0, .int 0, .int (-4), .ref (sz + (j + 1))]) else .inl (w.2.1 1, 9, .inl (fun _ => 0)))
def tX0 (w : zE) (sz i : Nat) (f : Nat → va_E) : Nat → va_E := (loS (va_up (va_up (va_up (tX5 w sz (i + 17) (va_up (va_up (tX5 w sz (i + 15) (va_up (va_up (tX1 w sz (i + 1) (va_up f (i + 1) (.inr (1, [.null, .int 0, .null, .null, .int 0, .int 0, .int 0])))) i (.inr (0, [.ref (sz + (i + 1)), .null, .null, .null, .int 0]))) (i + 15) (.inr (5, [.int 0, .int 0, .int 0, .int 0, .int 0, .int 0, .null])))) i (.inr (0, [.ref (sz + (i + 1)), .ref (sz + (i + 15)), .null, .null, .int 0]))) (i + 17) (.inr (5, [.int 0, .int 0, .int 0, .int 0, .int 0, .int 0, .null])))) i (.inr (0, [.ref (sz + (i + 1)), .ref (sz + (i + 15)), .ref (sz + (i + 17)), .null, .int 0]))) (i + 19) (.inl (w.2.1 5, 11, .inr (.inr (.inr (.inr (fun _ => none))))))) i (.inr (0, [.ref (sz + (i + 1)), .ref (sz + (i + 15)), .ref (sz + (i + 17)), .ref (sz + (i + 19)), .int 0]))) (i + 19) (w.2.1 5) 11 sz (i + 20) 2 (hX0 w sz i) 11)
set_option maxHeartbeats 4000000 in
theorem lo_X0 {w : zE} {sz i : Nat} {g : zG} {b : Nat → va_E} (F : bF w sz (i + 1) g RX0 cX0_init 2 3) (hR : g.1.2.2.2 = bR 3 41 294) (hb : b i = .inr (0, [.ref (sz + (i + 1)), .ref (sz + (i + 15)), .ref (sz + (i + 17)), .ref (sz + (i + 19)), .int 0])) (K : BW w sz (i + 1) g 2 76 [some (.ref (sz + i)), some (.int (nI 11))] [] (loS b (i + 19) (w.2.1 5) 11 sz (i + 20) 2 (hX0 w sz i) 11) 41 294) : ∀ (r k : Nat), k + r = 11 → BW w sz (i + 1) g 2 48 [some (.ref (sz + i)), some (.int (nI k))] [] (loS b (i + 19) (w.2.1 5) 11 sz (i + 20) 2 (hX0 w sz i) k) (19 + 2 * k) (118 + 16 * k) := by
  intro r
  induction r with
  | zero =>
    intro k hk
    have hi : (loS b (i + 19) (w.2.1 5) 11 sz (i + 20) 2 (hX0 w sz i) k) i = _ := (loS_lo (show i ≠ (i + 19) by omega) (show i < (i + 20) by omega)).trans hb
    obtain rfl : k = 11 := by omega
    refine b_iload F dX0_init_48 rfl ?_
    refine b_aload F dX0_init_49 rfl ?_
    refine b_get (j := 3) F (by omega) hi rfl izX0 (by decide) rfl fl_X0_28 rfl dX0_init_50 ?_
    refine b_alen (t0 := 5) (v := nI 11) F (by omega) loS_a rfl rfl dX0_init_53 ?_
    exact b_ge (tgt := 76) F dX0_init_54 (by decide) (fun _ => K) (fun h => absurd h (by decide))
  | succ r ih =>
    intro k hk
    have hk2 : k < 11 := by omega
    have hi : (loS b (i + 19) (w.2.1 5) 11 sz (i + 20) 2 (hX0 w sz i) k) i = _ := (loS_lo (show i ≠ (i + 19) by omega) (show i < (i + 20) by omega)).trans hb
    refine b_iload F dX0_init_48 rfl ?_
    refine b_aload F dX0_init_49 rfl ?_
    refine b_get (j := 3) F (by omega) hi rfl izX0 (by decide) rfl fl_X0_28 rfl dX0_init_50 ?_
    refine b_alen (t0 := 5) (v := nI 11) F (by omega) loS_a rfl rfl dX0_init_53 ?_
    refine b_ge (tgt := 76) F dX0_init_54 (by decide) (fun h => absurd h (nI_ge hk2 (by decide))) (fun _ => ?_)
    refine b_aload F dX0_init_57 rfl ?_
    refine b_get (j := 3) F (by omega) hi rfl izX0 (by decide) rfl fl_X0_28 rfl dX0_init_58 ?_
    refine b_iload F dX0_init_61 rfl ?_
    refine b_new (ci := 5) (fs := [.int 0, .int 0, .int 0, .int 0, .int 0, .int 0, .null]) (j := ((i + 20) + 2 * k)) F bc_X0_18 bi_X5 bj_X5 izX5 tyX5 tyX5_ok rfl bd_X5 (by rw [hR]; show 19 + 2 * k + 1 ≤ 41; omega) (by rw [hR]; show 118 + 16 * k + 7 ≤ 294; omega) (by omega) dX0_init_62 ?_
    refine b_dup F dX0_init_65 rfl ?_
    refine b_callN F (c_X5_init (g.1.2.1) w sz ((i + 20) + 2 * k) _ (va_up_self _ _ _)) (by omega) zm_X5_init bm_X5 rfl F.2.2.2.2.2.2.2.2.2.2.2.2.2.2.2.1 (Nat.le_of_ble_eq_true rfl) dX0_init_66 (by decide) (by rw [hR]; show 19 + 2 * k + 1 + 1 ≤ 41; omega) (by rw [hR]; show 118 + 16 * k + 7 + 9 ≤ 294; omega) ?_
    refine b_astq (t0 := 5) (ci := 5) F (by omega) ((tX5_lo (show (i + 19) < ((i + 20) + 2 * k) by omega)).trans ((va_up_ne _ _ (show (i + 19) ≠ ((i + 20) + 2 * k) by omega)).trans loS_a)) rfl (by omega) (tX5_at (va_up_self _ _ _)) rfl (vp_in_nI hk2 (by decide)) dX0_init_69 ?_
    rw [nI_clamp (show k < 2 ^ 31 by omega)]
    refine b_ext (f' := (loS b (i + 19) (w.2.1 5) 11 sz (i + 20) 2 (hX0 w sz i) (k + 1))) (fun j hj => loS_s (by omega) (fun j h => (tX5_lo h).trans (va_up_ne _ _ (by omega))) (fun j h1 h2 => ?_) j (by omega)) ?_
    · rcases (show j = ((i + 20) + 2 * k) ∨ j = ((i + 20) + 2 * k) + 1 by omega) with rfl | rfl
      · rw [tX5_at (va_up_self _ _ _)]; unfold hX0; rw [if_pos (by omega)]
      · rw [tX5_1]; unfold hX0; rw [if_neg (by omega)]
    refine b_iinc F dX0_init_70 rfl (nI_1 k) (by decide) rfl rfl ?_
    refine b_goto (tgt := 48) F dX0_init_73 (by decide) ?_
    have q := ih (k + 1) (by omega)
    rw [show 19 + 2 * (k + 1) = 19 + 2 * k + 1 + 1 by omega, show 118 + 16 * (k + 1) = 118 + 16 * k + 7 + 9 by omega] at q
    exact q
theorem tX0_lo {w : zE} {sz i j : Nat} {f : Nat → va_E} (h : j < i) : tX0 w sz i f j = f j := by
  unfold tX0
  rw [loS_lo (show j ≠ (i + 19) by omega) (show j < (i + 20) by omega)]
  rw [va_up_ne _ _ (show j ≠ i by omega)]
  rw [va_up_ne _ _ (show j ≠ (i + 19) by omega)]
  rw [va_up_ne _ _ (show j ≠ i by omega)]
  rw [tX5_lo (show j < (i + 17) by omega)]
  rw [va_up_ne _ _ (show j ≠ (i + 17) by omega)]
  rw [va_up_ne _ _ (show j ≠ i by omega)]
  rw [tX5_lo (show j < (i + 15) by omega)]
  rw [va_up_ne _ _ (show j ≠ (i + 15) by omega)]
  rw [va_up_ne _ _ (show j ≠ i by omega)]
  rw [tX1_lo (show j < (i + 1) by omega)]
  rw [va_up_ne _ _ (show j ≠ (i + 1) by omega)]
theorem tX0_at {w : zE} {sz i : Nat} {f : Nat → va_E} (h0 : f i = .inr (0, [.null, .null, .null, .null, .int 0])) : tX0 w sz i f i = .inr (0, [.ref (sz + (i + 1)), .ref (sz + (i + 15)), .ref (sz + (i + 17)), .ref (sz + (i + 19)), .int 0]) := by
  exact (loS_lo (show i ≠ (i + 19) by omega) (show i < (i + 20) by omega)).trans ((va_up_self _ _ _))
set_option maxHeartbeats 4000000 in
theorem c_X0_init (l : Launch) (w : zE) (sz i : Nat) (f : Nat → va_E) (h0 : f i = .inr (0, [.null, .null, .null, .null, .int 0])) : bC l w sz yX0_init cX0_init 2 3 [.ref (sz + i)] (i + 1) f 41 294 (tX0 w sz i f) := by
  refine bC_of zm_X0_init rfl [some (.ref (sz + i)), none] rfl (by decide) (fun g hg hR hI F X => ?_)
  subst hg
  refine b_aload F dX0_init_0 rfl ?_
  refine b_obj F bo_X0 bo_1 bo_2 dX0_init_1 (by decide) ?_
  refine b_aload F dX0_init_4 rfl ?_
  refine b_new (ci := 1) (fs := [.null, .int 0, .null, .null, .int 0, .int 0, .int 0]) (j := (i + 1)) F bc_X0_9 bi_X1 bj_X1 izX1 tyX1 tyX1_ok rfl bd_X1 (by rw [hR]; show 0 + 1 ≤ 41; decide) (by rw [hR]; show 0 + 7 ≤ 294; decide) (by omega) dX0_init_5 ?_
  refine b_dup F dX0_init_8 rfl ?_
  refine b_callI F (c_X1_init (g.1.2.1) w sz (i + 1) _ ((va_up_self _ _ _))) (by omega) zm_X1_init bm_X1 rfl bl_X0_11 (Nat.le_of_ble_eq_true rfl) dX0_init_9 (by decide) (by rw [hR]; show 1 + 13 ≤ 41; decide) (by rw [hR]; show 7 + 68 ≤ 294; decide) ?_
  refine b_putF (j := 0) F hI (by omega) (((tX1_lo (show i < (i + 1) by omega)).trans ((va_up_ne _ _ (show i ≠ (i + 1) by omega)).trans h0))) rfl izX0 tyX0_ok nmX0 (by decide) rfl rfl fl_X0_12 rfl rfl rfl (Nat.le_of_ble_eq_true rfl) dX0_init_12 ?_
  refine b_aload F dX0_init_15 rfl ?_
  refine b_new (ci := 5) (fs := [.int 0, .int 0, .int 0, .int 0, .int 0, .int 0, .null]) (j := (i + 15)) F bc_X0_18 bi_X5 bj_X5 izX5 tyX5 tyX5_ok rfl bd_X5 (by rw [hR]; show 14 + 1 ≤ 41; decide) (by rw [hR]; show 75 + 7 ≤ 294; decide) (by omega) dX0_init_16 ?_
  refine b_dup F dX0_init_19 rfl ?_
  refine b_callN F (c_X5_init (g.1.2.1) w sz (i + 15) _ ((va_up_self _ _ _))) (by omega) zm_X5_init bm_X5 rfl F.2.2.2.2.2.2.2.2.2.2.2.2.2.2.2.1 (Nat.le_of_ble_eq_true rfl) dX0_init_20 (by decide) (by rw [hR]; show 15 + 1 ≤ 41; decide) (by rw [hR]; show 82 + 9 ≤ 294; decide) ?_
  refine b_putF (j := 1) F hI (by omega) (((tX5_lo (show i < (i + 15) by omega)).trans ((va_up_ne _ _ (show i ≠ (i + 15) by omega)).trans (va_up_self _ _ _)))) rfl izX0 tyX0_ok nmX0 (by decide) rfl rfl fl_X0_21 rfl rfl rfl (Nat.le_of_ble_eq_true rfl) dX0_init_23 ?_
  refine b_aload F dX0_init_26 rfl ?_
  refine b_new (ci := 5) (fs := [.int 0, .int 0, .int 0, .int 0, .int 0, .int 0, .null]) (j := (i + 17)) F bc_X0_18 bi_X5 bj_X5 izX5 tyX5 tyX5_ok rfl bd_X5 (by rw [hR]; show 16 + 1 ≤ 41; decide) (by rw [hR]; show 91 + 7 ≤ 294; decide) (by omega) dX0_init_27 ?_
  refine b_dup F dX0_init_30 rfl ?_
  refine b_callN F (c_X5_init (g.1.2.1) w sz (i + 17) _ ((va_up_self _ _ _))) (by omega) zm_X5_init bm_X5 rfl F.2.2.2.2.2.2.2.2.2.2.2.2.2.2.2.1 (Nat.le_of_ble_eq_true rfl) dX0_init_31 (by decide) (by rw [hR]; show 17 + 1 ≤ 41; decide) (by rw [hR]; show 98 + 9 ≤ 294; decide) ?_
  refine b_putF (j := 2) F hI (by omega) (((tX5_lo (show i < (i + 17) by omega)).trans ((va_up_ne _ _ (show i ≠ (i + 17) by omega)).trans (va_up_self _ _ _)))) rfl izX0 tyX0_ok nmX0 (by decide) rfl rfl fl_X0_25 rfl rfl rfl (Nat.le_of_ble_eq_true rfl) dX0_init_34 ?_
  refine b_aload F dX0_init_37 rfl ?_
  refine b_bipush (v := 11) F dX0_init_38 (by decide) ?_
  refine b_newq (N' := 11) (t0 := 5) (j := (i + 19)) F bc_X0_18 F.2.2.2.2.2.2.2.2.2.2.1.2.1 rfl (by decide) (by decide) (by decide) (by rw [hR]; show 18 + 1 ≤ 41; decide) (by rw [hR]; show 107 + 11 ≤ 294; decide) (by omega) dX0_init_40 ?_
  refine b_putF (j := 3) F hI (by omega) (((va_up_ne _ _ (show i ≠ (i + 19) by omega)).trans (va_up_self _ _ _))) rfl izX0 tyX0_ok nmX0 (by decide) rfl rfl fl_X0_28 rfl rfl rfl (Nat.le_of_ble_eq_true rfl) dX0_init_43 ?_
  refine b_iconst (v := nI 0) F dX0_init_46 (by decide) ?_
  refine b_istore F dX0_init_47 (by decide) rfl rfl ?_
  refine b_ext (f' := (loS _ (i + 19) (w.2.1 5) 11 sz (i + 20) 2 (hX0 w sz i) 0)) (fun j _ => loS_0 (m := (i + 20)) (st := 2) (ch := hX0 w sz i) (sz := sz) (((va_up_ne _ _ (show (i + 19) ≠ i by omega)).trans (va_up_self _ _ _))) j) ?_
  refine lo_X0 F hR ?_ ?_ 11 0 rfl
  · exact (va_up_self _ _ _)
  · exact b_vret F X dX0_init_76 (fun _ _ => rfl)
def hX7 (w : zE) (sz i : Nat) : Nat → va_E := (fun j => if (j - (i + 130)) % 2 = 0 then .inr (2, [.int 0, .int 0, .int 0, .ref (sz + (j + 1))]) else .inl (w.2.1 2, 16, .inr (.inl (fun _ => 0))))
def tX7 (w : zE) (sz i : Nat) (f : Nat → va_E) : Nat → va_E := (loS (va_up (va_up (va_up (tX0 w sz (i + 87) (va_up (va_up (tX3 w sz (i + 69) (va_up (va_up (tX6 w sz (i + 35) (va_up (va_up (tX6 w sz (i + 1) (va_up f (i + 1) (.inr (6, [.null, .null, .null, .int 0])))) i (.inr (7, [.ref (sz + (i + 1)), .null, .int 0, .null, .null, .null]))) (i + 35) (.inr (6, [.null, .null, .null, .int 0])))) i (.inr (7, [.ref (sz + (i + 1)), .ref (sz + (i + 35)), .int 0, .null, .null, .null]))) (i + 69) (.inr (3, [.null, .int 0, .int 0, .null, .null])))) i (.inr (7, [.ref (sz + (i + 1)), .ref (sz + (i + 35)), .int 0, .ref (sz + (i + 69)), .null, .null]))) (i + 87) (.inr (0, [.null, .null, .null, .null, .int 0])))) i (.inr (7, [.ref (sz + (i + 1)), .ref (sz + (i + 35)), .int 0, .ref (sz + (i + 69)), .ref (sz + (i + 87)), .null]))) (i + 129) (.inl (w.2.1 3, 4, .inr (.inr (.inr (.inr (fun _ => none))))))) i (.inr (7, [.ref (sz + (i + 1)), .ref (sz + (i + 35)), .int 0, .ref (sz + (i + 69)), .ref (sz + (i + 87)), .ref (sz + (i + 129))]))) (i + 129) (w.2.1 3) 4 sz (i + 130) 2 (hX7 w sz i) 4)
set_option maxHeartbeats 4000000 in
theorem lo_X7 {w : zE} {sz i : Nat} {g : zG} {b : Nat → va_E} (F : bF w sz (i + 1) g RX7 cX7_init 2 4) (hR : g.1.2.2.2 = bR 4 137 1061) (hb : b i = .inr (7, [.ref (sz + (i + 1)), .ref (sz + (i + 35)), .int 0, .ref (sz + (i + 69)), .ref (sz + (i + 87)), .ref (sz + (i + 129))])) (K : BW w sz (i + 1) g 2 86 [some (.ref (sz + i)), some (.int (nI 4))] [] (loS b (i + 129) (w.2.1 3) 4 sz (i + 130) 2 (hX7 w sz i) 4) 137 1061) : ∀ (r k : Nat), k + r = 4 → BW w sz (i + 1) g 2 58 [some (.ref (sz + i)), some (.int (nI k))] [] (loS b (i + 129) (w.2.1 3) 4 sz (i + 130) 2 (hX7 w sz i) k) (129 + 2 * k) (981 + 20 * k) := by
  intro r
  induction r with
  | zero =>
    intro k hk
    have hi : (loS b (i + 129) (w.2.1 3) 4 sz (i + 130) 2 (hX7 w sz i) k) i = _ := (loS_lo (show i ≠ (i + 129) by omega) (show i < (i + 130) by omega)).trans hb
    obtain rfl : k = 4 := by omega
    refine b_iload F dX7_init_58 rfl ?_
    refine b_aload F dX7_init_59 rfl ?_
    refine b_get (j := 5) F (by omega) hi rfl izX7 (by decide) rfl fl_X7_35 rfl dX7_init_60 ?_
    refine b_alen (t0 := 3) (v := nI 4) F (by omega) loS_a rfl rfl dX7_init_63 ?_
    exact b_ge (tgt := 86) F dX7_init_64 (by decide) (fun _ => K) (fun h => absurd h (by decide))
  | succ r ih =>
    intro k hk
    have hk2 : k < 4 := by omega
    have hi : (loS b (i + 129) (w.2.1 3) 4 sz (i + 130) 2 (hX7 w sz i) k) i = _ := (loS_lo (show i ≠ (i + 129) by omega) (show i < (i + 130) by omega)).trans hb
    refine b_iload F dX7_init_58 rfl ?_
    refine b_aload F dX7_init_59 rfl ?_
    refine b_get (j := 5) F (by omega) hi rfl izX7 (by decide) rfl fl_X7_35 rfl dX7_init_60 ?_
    refine b_alen (t0 := 3) (v := nI 4) F (by omega) loS_a rfl rfl dX7_init_63 ?_
    refine b_ge (tgt := 86) F dX7_init_64 (by decide) (fun h => absurd h (nI_ge hk2 (by decide))) (fun _ => ?_)
    refine b_aload F dX7_init_67 rfl ?_
    refine b_get (j := 5) F (by omega) hi rfl izX7 (by decide) rfl fl_X7_35 rfl dX7_init_68 ?_
    refine b_iload F dX7_init_71 rfl ?_
    refine b_new (ci := 2) (fs := [.int 0, .int 0, .int 0, .null]) (j := ((i + 130) + 2 * k)) F bc_X7_33 bi_X2 bj_X2 izX2 tyX2 tyX2_ok rfl bd_X2 (by rw [hR]; show 129 + 2 * k + 1 ≤ 137; omega) (by rw [hR]; show 981 + 20 * k + 4 ≤ 1061; omega) (by omega) dX7_init_72 ?_
    refine b_dup F dX7_init_75 rfl ?_
    refine b_callN F (c_X2_init (g.1.2.1) w sz ((i + 130) + 2 * k) _ (va_up_self _ _ _)) (by omega) zm_X2_init bm_X2 rfl F.2.2.2.2.2.2.2.2.2.2.2.2.2.2.2.2 (Nat.le_of_ble_eq_true rfl) dX7_init_76 (by decide) (by rw [hR]; show 129 + 2 * k + 1 + 1 ≤ 137; omega) (by rw [hR]; show 981 + 20 * k + 4 + 16 ≤ 1061; omega) ?_
    refine b_astq (t0 := 3) (ci := 2) F (by omega) ((tX2_lo (show (i + 129) < ((i + 130) + 2 * k) by omega)).trans ((va_up_ne _ _ (show (i + 129) ≠ ((i + 130) + 2 * k) by omega)).trans loS_a)) rfl (by omega) (tX2_at (va_up_self _ _ _)) rfl (vp_in_nI hk2 (by decide)) dX7_init_79 ?_
    rw [nI_clamp (show k < 2 ^ 31 by omega)]
    refine b_ext (f' := (loS b (i + 129) (w.2.1 3) 4 sz (i + 130) 2 (hX7 w sz i) (k + 1))) (fun j hj => loS_s (by omega) (fun j h => (tX2_lo h).trans (va_up_ne _ _ (by omega))) (fun j h1 h2 => ?_) j (by omega)) ?_
    · rcases (show j = ((i + 130) + 2 * k) ∨ j = ((i + 130) + 2 * k) + 1 by omega) with rfl | rfl
      · rw [tX2_at (va_up_self _ _ _)]; unfold hX7; rw [if_pos (by omega)]
      · rw [tX2_1]; unfold hX7; rw [if_neg (by omega)]
    refine b_iinc F dX7_init_80 rfl (nI_1 k) (by decide) rfl rfl ?_
    refine b_goto (tgt := 58) F dX7_init_83 (by decide) ?_
    have q := ih (k + 1) (by omega)
    rw [show 129 + 2 * (k + 1) = 129 + 2 * k + 1 + 1 by omega, show 981 + 20 * (k + 1) = 981 + 20 * k + 4 + 16 by omega] at q
    exact q
theorem tX7_lo {w : zE} {sz i j : Nat} {f : Nat → va_E} (h : j < i) : tX7 w sz i f j = f j := by
  unfold tX7
  rw [loS_lo (show j ≠ (i + 129) by omega) (show j < (i + 130) by omega)]
  rw [va_up_ne _ _ (show j ≠ i by omega)]
  rw [va_up_ne _ _ (show j ≠ (i + 129) by omega)]
  rw [va_up_ne _ _ (show j ≠ i by omega)]
  rw [tX0_lo (show j < (i + 87) by omega)]
  rw [va_up_ne _ _ (show j ≠ (i + 87) by omega)]
  rw [va_up_ne _ _ (show j ≠ i by omega)]
  rw [tX3_lo (show j < (i + 69) by omega)]
  rw [va_up_ne _ _ (show j ≠ (i + 69) by omega)]
  rw [va_up_ne _ _ (show j ≠ i by omega)]
  rw [tX6_lo (show j < (i + 35) by omega)]
  rw [va_up_ne _ _ (show j ≠ (i + 35) by omega)]
  rw [va_up_ne _ _ (show j ≠ i by omega)]
  rw [tX6_lo (show j < (i + 1) by omega)]
  rw [va_up_ne _ _ (show j ≠ (i + 1) by omega)]
theorem tX7_at {w : zE} {sz i : Nat} {f : Nat → va_E} (h0 : f i = .inr (7, [.null, .null, .int 0, .null, .null, .null])) : tX7 w sz i f i = .inr (7, [.ref (sz + (i + 1)), .ref (sz + (i + 35)), .int 0, .ref (sz + (i + 69)), .ref (sz + (i + 87)), .ref (sz + (i + 129))]) := by
  exact (loS_lo (show i ≠ (i + 129) by omega) (show i < (i + 130) by omega)).trans ((va_up_self _ _ _))
set_option maxHeartbeats 4000000 in
theorem c_X7_init (l : Launch) (w : zE) (sz i : Nat) (f : Nat → va_E) (h0 : f i = .inr (7, [.null, .null, .int 0, .null, .null, .null])) : bC l w sz yX7_init cX7_init 2 4 [.ref (sz + i)] (i + 1) f 137 1061 (tX7 w sz i f) := by
  refine bC_of zm_X7_init rfl [some (.ref (sz + i)), none] rfl (by decide) (fun g hg hR hI F X => ?_)
  subst hg
  refine b_aload F dX7_init_0 rfl ?_
  refine b_obj F bo_X7 bo_1 bo_2 dX7_init_1 (by decide) ?_
  refine b_aload F dX7_init_4 rfl ?_
  refine b_new (ci := 6) (fs := [.null, .null, .null, .int 0]) (j := (i + 1)) F bc_X7_7 bi_X6 bj_X6 izX6 tyX6 tyX6_ok rfl bd_X6 (by rw [hR]; show 0 + 1 ≤ 137; decide) (by rw [hR]; show 0 + 4 ≤ 1061; decide) (by omega) dX7_init_5 ?_
  refine b_dup F dX7_init_8 rfl ?_
  refine b_callI F (c_X6_init (g.1.2.1) w sz (i + 1) _ ((va_up_self _ _ _))) (by omega) zm_X6_init bm_X6 rfl bl_X7_9 (Nat.le_of_ble_eq_true rfl) dX7_init_9 (by decide) (by rw [hR]; show 1 + 33 ≤ 137; decide) (by rw [hR]; show 4 + 227 ≤ 1061; decide) ?_
  refine b_putF (j := 0) F hI (by omega) (((tX6_lo (show i < (i + 1) by omega)).trans ((va_up_ne _ _ (show i ≠ (i + 1) by omega)).trans h0))) rfl izX7 tyX7_ok nmX7 (by decide) rfl rfl fl_X7_10 rfl rfl rfl (Nat.le_of_ble_eq_true rfl) dX7_init_12 ?_
  refine b_aload F dX7_init_15 rfl ?_
  refine b_new (ci := 6) (fs := [.null, .null, .null, .int 0]) (j := (i + 35)) F bc_X7_7 bi_X6 bj_X6 izX6 tyX6 tyX6_ok rfl bd_X6 (by rw [hR]; show 34 + 1 ≤ 137; decide) (by rw [hR]; show 231 + 4 ≤ 1061; decide) (by omega) dX7_init_16 ?_
  refine b_dup F dX7_init_19 rfl ?_
  refine b_callI F (c_X6_init (g.1.2.1) w sz (i + 35) _ ((va_up_self _ _ _))) (by omega) zm_X6_init bm_X6 rfl bl_X7_9 (Nat.le_of_ble_eq_true rfl) dX7_init_20 (by decide) (by rw [hR]; show 35 + 33 ≤ 137; decide) (by rw [hR]; show 235 + 227 ≤ 1061; decide) ?_
  refine b_putF (j := 1) F hI (by omega) (((tX6_lo (show i < (i + 35) by omega)).trans ((va_up_ne _ _ (show i ≠ (i + 35) by omega)).trans (va_up_self _ _ _)))) rfl izX7 tyX7_ok nmX7 (by decide) rfl rfl fl_X7_16 rfl rfl rfl (Nat.le_of_ble_eq_true rfl) dX7_init_23 ?_
  refine b_aload F dX7_init_26 rfl ?_
  refine b_new (ci := 3) (fs := [.null, .int 0, .int 0, .null, .null]) (j := (i + 69)) F bc_X7_19 bi_X3 bj_X3 izX3 tyX3 tyX3_ok rfl bd_X3 (by rw [hR]; show 68 + 1 ≤ 137; decide) (by rw [hR]; show 462 + 5 ≤ 1061; decide) (by omega) dX7_init_27 ?_
  refine b_dup F dX7_init_30 rfl ?_
  refine b_callN F (c_X3_init (g.1.2.1) w sz (i + 69) _ ((va_up_self _ _ _))) (by omega) zm_X3_init bm_X3 rfl F.2.2.2.2.2.2.2.2.2.2.2.2.2.1 (Nat.le_of_ble_eq_true rfl) dX7_init_31 (by decide) (by rw [hR]; show 69 + 17 ≤ 137; decide) (by rw [hR]; show 467 + 211 ≤ 1061; decide) ?_
  refine b_putF (j := 3) F hI (by omega) (((tX3_lo (show i < (i + 69) by omega)).trans ((va_up_ne _ _ (show i ≠ (i + 69) by omega)).trans (va_up_self _ _ _)))) rfl izX7 tyX7_ok nmX7 (by decide) rfl rfl fl_X7_22 rfl rfl rfl (Nat.le_of_ble_eq_true rfl) dX7_init_34 ?_
  refine b_aload F dX7_init_37 rfl ?_
  refine b_new (ci := 0) (fs := [.null, .null, .null, .null, .int 0]) (j := (i + 87)) F bc_X7_26 bi_X0 bj_X0 izX0 tyX0 tyX0_ok rfl bd_X0 (by rw [hR]; show 86 + 1 ≤ 137; decide) (by rw [hR]; show 678 + 5 ≤ 1061; decide) (by omega) dX7_init_38 ?_
  refine b_dup F dX7_init_41 rfl ?_
  refine b_callI F (c_X0_init (g.1.2.1) w sz (i + 87) _ ((va_up_self _ _ _))) (by omega) zm_X0_init bm_X0 rfl bl_X7_28 (Nat.le_of_ble_eq_true rfl) dX7_init_42 (by decide) (by rw [hR]; show 87 + 41 ≤ 137; decide) (by rw [hR]; show 683 + 294 ≤ 1061; decide) ?_
  refine b_putF (j := 4) F hI (by omega) (((tX0_lo (show i < (i + 87) by omega)).trans ((va_up_ne _ _ (show i ≠ (i + 87) by omega)).trans (va_up_self _ _ _)))) rfl izX7 tyX7_ok nmX7 (by decide) rfl rfl fl_X7_29 rfl rfl rfl (Nat.le_of_ble_eq_true rfl) dX7_init_45 ?_
  refine b_aload F dX7_init_48 rfl ?_
  refine b_iconst (v := 4) F dX7_init_49 (by decide) ?_
  refine b_newq (N' := 4) (t0 := 3) (j := (i + 129)) F bc_X7_33 F.2.2.2.2.2.2.2.2.2.2.1.2.2 rfl (by decide) (by decide) (by decide) (by rw [hR]; show 128 + 1 ≤ 137; decide) (by rw [hR]; show 977 + 4 ≤ 1061; decide) (by omega) dX7_init_50 ?_
  refine b_putF (j := 5) F hI (by omega) (((va_up_ne _ _ (show i ≠ (i + 129) by omega)).trans (va_up_self _ _ _))) rfl izX7 tyX7_ok nmX7 (by decide) rfl rfl fl_X7_35 rfl rfl rfl (Nat.le_of_ble_eq_true rfl) dX7_init_53 ?_
  refine b_iconst (v := nI 0) F dX7_init_56 (by decide) ?_
  refine b_istore F dX7_init_57 (by decide) rfl rfl ?_
  refine b_ext (f' := (loS _ (i + 129) (w.2.1 3) 4 sz (i + 130) 2 (hX7 w sz i) 0)) (fun j _ => loS_0 (m := (i + 130)) (st := 2) (ch := hX7 w sz i) (sz := sz) (((va_up_ne _ _ (show (i + 129) ≠ i by omega)).trans (va_up_self _ _ _))) j) ?_
  refine lo_X7 F hR ?_ ?_ 4 0 rfl
  · exact (va_up_self _ _ _)
  · exact b_vret F X dX7_init_86 (fun _ _ => rfl)
end
section
def tX8 (w : zE) (sz : Nat) (f : Nat → va_E) : Nat → va_E := (va_up (va_up (va_up (va_up (va_up (va_up (va_up (va_up (va_up (va_up (va_up (va_up (va_up (va_up (va_up (va_up (va_up (va_up (va_up (va_up (va_up (va_up (va_up (va_up (va_up (va_up (va_up (va_up (va_up (va_up f 139 (.inl (w.2.1 1, 40, .inl (fun _ => 0)))) 138 (.inr (8, [.int 0, .int 0, .ref (sz + 139), .null, .null, .int 0, .int 0, .int 0, .int 0, .null, .int 0, .int 0, .int 0, .int 0, .int 0, .int 0, .null, .null, .int 0, .null, .int 0, .null, .null, .null, .null, .int 0, .null, .null, .null, .null]))) 140 (.inl (w.2.1 1, 16, .inl (fun _ => 0)))) 138 (.inr (8, [.int 0, .int 0, .ref (sz + 139), .ref (sz + 140), .null, .int 0, .int 0, .int 0, .int 0, .null, .int 0, .int 0, .int 0, .int 0, .int 0, .int 0, .null, .null, .int 0, .null, .int 0, .null, .null, .null, .null, .int 0, .null, .null, .null, .null]))) 141 (.inl (w.2.1 1, 14, .inl (fun _ => 0)))) 138 (.inr (8, [.int 0, .int 0, .ref (sz + 139), .ref (sz + 140), .ref (sz + 141), .int 0, .int 0, .int 0, .int 0, .null, .int 0, .int 0, .int 0, .int 0, .int 0, .int 0, .null, .null, .int 0, .null, .int 0, .null, .null, .null, .null, .int 0, .null, .null, .null, .null]))) 142 (.inl (w.2.1 1, 120, .inl (fun _ => 0)))) 138 (.inr (8, [.int 0, .int 0, .ref (sz + 139), .ref (sz + 140), .ref (sz + 141), .int 0, .int 0, .int 0, .int 0, .ref (sz + 142), .int 0, .int 0, .int 0, .int 0, .int 0, .int 0, .null, .null, .int 0, .null, .int 0, .null, .null, .null, .null, .int 0, .null, .null, .null, .null]))) 143 (.inl (w.2.1 1, 40, .inl (fun _ => 0)))) 138 (.inr (8, [.int 0, .int 0, .ref (sz + 139), .ref (sz + 140), .ref (sz + 141), .int 0, .int 0, .int 0, .int 0, .ref (sz + 142), .int 0, .int 0, .int 0, .int 0, .int 0, .int 0, .ref (sz + 143), .null, .int 0, .null, .int 0, .null, .null, .null, .null, .int 0, .null, .null, .null, .null]))) 144 (.inl (w.2.1 1, 24, .inl (fun _ => 0)))) 138 (.inr (8, [.int 0, .int 0, .ref (sz + 139), .ref (sz + 140), .ref (sz + 141), .int 0, .int 0, .int 0, .int 0, .ref (sz + 142), .int 0, .int 0, .int 0, .int 0, .int 0, .int 0, .ref (sz + 143), .ref (sz + 144), .int 0, .null, .int 0, .null, .null, .null, .null, .int 0, .null, .null, .null, .null]))) 145 (.inl (w.2.1 1, 112, .inl (fun _ => 0)))) 138 (.inr (8, [.int 0, .int 0, .ref (sz + 139), .ref (sz + 140), .ref (sz + 141), .int 0, .int 0, .int 0, .int 0, .ref (sz + 142), .int 0, .int 0, .int 0, .int 0, .int 0, .int 0, .ref (sz + 143), .ref (sz + 144), .int 0, .ref (sz + 145), .int 0, .null, .null, .null, .null, .int 0, .null, .null, .null, .null]))) 146 (.inl (w.2.1 1, 14, .inl (fun _ => 0)))) 138 (.inr (8, [.int 0, .int 0, .ref (sz + 139), .ref (sz + 140), .ref (sz + 141), .int 0, .int 0, .int 0, .int 0, .ref (sz + 142), .int 0, .int 0, .int 0, .int 0, .int 0, .int 0, .ref (sz + 143), .ref (sz + 144), .int 0, .ref (sz + 145), .int 0, .ref (sz + 146), .null, .null, .null, .int 0, .null, .null, .null, .null]))) 147 (.inl (w.2.1 1, 8, .inl (fun _ => 0)))) 138 (.inr (8, [.int 0, .int 0, .ref (sz + 139), .ref (sz + 140), .ref (sz + 141), .int 0, .int 0, .int 0, .int 0, .ref (sz + 142), .int 0, .int 0, .int 0, .int 0, .int 0, .int 0, .ref (sz + 143), .ref (sz + 144), .int 0, .ref (sz + 145), .int 0, .ref (sz + 146), .ref (sz + 147), .null, .null, .int 0, .null, .null, .null, .null]))) 148 (.inl (w.2.1 1, 8, .inl (fun _ => 0)))) 138 (.inr (8, [.int 0, .int 0, .ref (sz + 139), .ref (sz + 140), .ref (sz + 141), .int 0, .int 0, .int 0, .int 0, .ref (sz + 142), .int 0, .int 0, .int 0, .int 0, .int 0, .int 0, .ref (sz + 143), .ref (sz + 144), .int 0, .ref (sz + 145), .int 0, .ref (sz + 146), .ref (sz + 147), .ref (sz + 148), .null, .int 0, .null, .null, .null, .null]))) 149 (.inl (w.2.1 1, 187, .inl (fun _ => 0)))) 138 (.inr (8, [.int 0, .int 0, .ref (sz + 139), .ref (sz + 140), .ref (sz + 141), .int 0, .int 0, .int 0, .int 0, .ref (sz + 142), .int 0, .int 0, .int 0, .int 0, .int 0, .int 0, .ref (sz + 143), .ref (sz + 144), .int 0, .ref (sz + 145), .int 0, .ref (sz + 146), .ref (sz + 147), .ref (sz + 148), .ref (sz + 149), .int 0, .null, .null, .null, .null]))) 150 (.inl (w.2.1 1, 4, .inl (fun _ => 0)))) 138 (.inr (8, [.int 0, .int 0, .ref (sz + 139), .ref (sz + 140), .ref (sz + 141), .int 0, .int 0, .int 0, .int 0, .ref (sz + 142), .int 0, .int 0, .int 0, .int 0, .int 0, .int 0, .ref (sz + 143), .ref (sz + 144), .int 0, .ref (sz + 145), .int 0, .ref (sz + 146), .ref (sz + 147), .ref (sz + 148), .ref (sz + 149), .int 0, .ref (sz + 150), .null, .null, .null]))) 151 (.inl (w.2.1 1, 4, .inl (fun _ => 0)))) 138 (.inr (8, [.int 0, .int 0, .ref (sz + 139), .ref (sz + 140), .ref (sz + 141), .int 0, .int 0, .int 0, .int 0, .ref (sz + 142), .int 0, .int 0, .int 0, .int 0, .int 0, .int 0, .ref (sz + 143), .ref (sz + 144), .int 0, .ref (sz + 145), .int 0, .ref (sz + 146), .ref (sz + 147), .ref (sz + 148), .ref (sz + 149), .int 0, .ref (sz + 150), .ref (sz + 151), .null, .null]))) 152 (.inl (w.2.1 2, 64, .inr (.inl (fun _ => 0))))) 138 (.inr (8, [.int 0, .int 0, .ref (sz + 139), .ref (sz + 140), .ref (sz + 141), .int 0, .int 0, .int 0, .int 0, .ref (sz + 142), .int 0, .int 0, .int 0, .int 0, .int 0, .int 0, .ref (sz + 143), .ref (sz + 144), .int 0, .ref (sz + 145), .int 0, .ref (sz + 146), .ref (sz + 147), .ref (sz + 148), .ref (sz + 149), .int 0, .ref (sz + 150), .ref (sz + 151), .ref (sz + 152), .null]))) 153 (.inl (w.2.1 2, 16, .inr (.inl (fun _ => 0))))) 138 (.inr (8, [.int 0, .int 0, .ref (sz + 139), .ref (sz + 140), .ref (sz + 141), .int 0, .int 0, .int 0, .int 0, .ref (sz + 142), .int 0, .int 0, .int 0, .int 0, .int 0, .int 0, .ref (sz + 143), .ref (sz + 144), .int 0, .ref (sz + 145), .int 0, .ref (sz + 146), .ref (sz + 147), .ref (sz + 148), .ref (sz + 149), .int 0, .ref (sz + 150), .ref (sz + 151), .ref (sz + 152), .ref (sz + 153)])))
/-- the order in which the cells are made: a road's rows of numbers ahead of its things -/
def zpm (i : Nat) : Nat := if i < 4 then i else if i < 14 then i + 2 else if i < 16 then i - 10 else if i < 38 then i else if i < 48 then i + 2 else if i < 50 then i - 10 else if i < 73 then i else if i < 83 then i + 2 else if i < 85 then i - 10 else if i < 90 then i else if i < 100 then i + 2 else if i < 102 then i - 10 else i
def zad (sz a b : Nat) (i : Nat) : Nat := if i < 154 then sz + zpm i else if i = 200 then a else b
abbrev zw (D : va_G) (cA : Nat → ClassId) (sz a b : Nat) : zE := (D, cA, zad sz a b)
/-- the memory of two new objects, ahead of what the reference's constructor puts in -/
def M0 : zM := (fun b => match zk b with
  | 1 => fun o => if o = 2 then 99 else if o = 3 then -4 else 0
  | 5 => fun o => if o = 0 then -4 else 0
  | 11 => fun _ => -4
  | 18 => fun o => nI o
  | _ => fun _ => 0, fun _ _ => 0)
theorem zpm_inj : ∀ i, i < 154 → ∀ j, j < 154 → zpm i = zpm j → i = j := by
  have h : ∀ i, i < 154 → zpm i < 154 ∧ (if zpm i < 4 then zpm i else if zpm i < 6 then zpm i + 10 else if zpm i < 16 then zpm i - 2 else if zpm i < 38 then zpm i else if zpm i < 40 then zpm i + 10 else if zpm i < 50 then zpm i - 2 else if zpm i < 73 then zpm i else if zpm i < 75 then zpm i + 10 else if zpm i < 85 then zpm i - 2 else if zpm i < 90 then zpm i else if zpm i < 92 then zpm i + 10 else if zpm i < 102 then zpm i - 2 else zpm i) = i := by decide +kernel
  intro i hi j hj e
  have h1 := (h i hi).2
  have h2 := (h j hj).2
  rw [e] at h1
  exact h1.symm.trans h2
theorem zw_J {D : va_G} {cA : Nat → ClassId} {sz a b : Nat} : zJ (zw D cA sz a b) := by
  intro i j hi hj e
  have e : zad sz a b i = zad sz a b j := e
  unfold zad at e
  rw [if_pos hi, if_pos hj] at e
  exact zpm_inj i hi j hj (by omega)
theorem zw_A {D : va_G} {cA : Nat → ClassId} {sz a b : Nat} {i : Nat} (hi : i < 154) : bA sz ((zw D cA sz a b).2.2 i) := by
  show sz ≤ zad sz a b i
  unfold zad
  rw [if_pos hi]
  omega
theorem M0_tr (k : Nat) (b : Nat) (h : zk b = 5) : M0.1 b (5 + k) = 0 := by
  unfold M0
  simp only [h]
  rw [if_neg (by omega)]
abbrev fA (D : va_G) (cA : Nat → ClassId) (sz a b : Nat) (f : Nat → va_E) : Nat → va_E := tX8 (zw D cA sz a b) sz (va_up (tX7 (zw D cA sz a b) sz 0 f) 138 (.inr (8, [.int 0, .int 0, .null, .null, .null, .int 0, .int 0, .int 0, .int 0, .null, .int 0, .int 0, .int 0, .int 0, .int 0, .int 0, .null, .null, .int 0, .null, .int 0, .null, .null, .null, .null, .int 0, .null, .null, .null, .null])))
theorem za_0 {D : va_G} {cA : Nat → ClassId} {sz a b : Nat} {f : Nat → va_E} {H : Heap} (h : bP (zw D cA sz a b) sz 154 (fA D cA sz a b f) H) : va_at D vwCl ((zw D cA sz a b).2.2 0, zc (zw D cA sz a b) M0 0) H := h 0 (by decide)
theorem za_1 {D : va_G} {cA : Nat → ClassId} {sz a b : Nat} {f : Nat → va_E} {H : Heap} (h : bP (zw D cA sz a b) sz 154 (fA D cA sz a b f) H) : va_at D vwCl ((zw D cA sz a b).2.2 1, zc (zw D cA sz a b) M0 1) H := h 1 (by decide)
theorem za_2 {D : va_G} {cA : Nat → ClassId} {sz a b : Nat} {f : Nat → va_E} {H : Heap} (h : bP (zw D cA sz a b) sz 154 (fA D cA sz a b f) H) : va_at D vwCl ((zw D cA sz a b).2.2 2, zc (zw D cA sz a b) M0 2) H := h 2 (by decide)
theorem za_3 {D : va_G} {cA : Nat → ClassId} {sz a b : Nat} {f : Nat → va_E} {H : Heap} (h : bP (zw D cA sz a b) sz 154 (fA D cA sz a b f) H) : va_at D vwCl ((zw D cA sz a b).2.2 3, zc (zw D cA sz a b) M0 3) H := Eq.trans (show H[sz + 3]? = some (vp_cell (cA 4) (10, .inr (.inr (.inr (.inr (fun q => if q < 10 then some (sz + (6 + 1 * q)) else none)))))) from h 3 (by decide)) (congrArg some (vpq_ext (fun j hj => (by show some (zad sz a b (3 + 1 + j)) = _; rw [if_pos hj]; unfold zad; rw [if_pos (by omega), (by decide +kernel : ∀ j, j < 10 → zpm (3 + 1 + j) = 6 + 1 * j) j hj]))))
theorem za_4 {D : va_G} {cA : Nat → ClassId} {sz a b : Nat} {f : Nat → va_E} {H : Heap} (h : bP (zw D cA sz a b) sz 154 (fA D cA sz a b f) H) : va_at D vwCl ((zw D cA sz a b).2.2 4, zc (zw D cA sz a b) M0 4) H := h 6 (by decide)
theorem za_5 {D : va_G} {cA : Nat → ClassId} {sz a b : Nat} {f : Nat → va_E} {H : Heap} (h : bP (zw D cA sz a b) sz 154 (fA D cA sz a b f) H) : va_at D vwCl ((zw D cA sz a b).2.2 5, zc (zw D cA sz a b) M0 5) H := h 7 (by decide)
theorem za_6 {D : va_G} {cA : Nat → ClassId} {sz a b : Nat} {f : Nat → va_E} {H : Heap} (h : bP (zw D cA sz a b) sz 154 (fA D cA sz a b f) H) : va_at D vwCl ((zw D cA sz a b).2.2 6, zc (zw D cA sz a b) M0 6) H := h 8 (by decide)
theorem za_7 {D : va_G} {cA : Nat → ClassId} {sz a b : Nat} {f : Nat → va_E} {H : Heap} (h : bP (zw D cA sz a b) sz 154 (fA D cA sz a b f) H) : va_at D vwCl ((zw D cA sz a b).2.2 7, zc (zw D cA sz a b) M0 7) H := h 9 (by decide)
theorem za_8 {D : va_G} {cA : Nat → ClassId} {sz a b : Nat} {f : Nat → va_E} {H : Heap} (h : bP (zw D cA sz a b) sz 154 (fA D cA sz a b f) H) : va_at D vwCl ((zw D cA sz a b).2.2 8, zc (zw D cA sz a b) M0 8) H := h 10 (by decide)
theorem za_9 {D : va_G} {cA : Nat → ClassId} {sz a b : Nat} {f : Nat → va_E} {H : Heap} (h : bP (zw D cA sz a b) sz 154 (fA D cA sz a b f) H) : va_at D vwCl ((zw D cA sz a b).2.2 9, zc (zw D cA sz a b) M0 9) H := h 11 (by decide)
theorem za_10 {D : va_G} {cA : Nat → ClassId} {sz a b : Nat} {f : Nat → va_E} {H : Heap} (h : bP (zw D cA sz a b) sz 154 (fA D cA sz a b f) H) : va_at D vwCl ((zw D cA sz a b).2.2 10, zc (zw D cA sz a b) M0 10) H := h 12 (by decide)
theorem za_11 {D : va_G} {cA : Nat → ClassId} {sz a b : Nat} {f : Nat → va_E} {H : Heap} (h : bP (zw D cA sz a b) sz 154 (fA D cA sz a b f) H) : va_at D vwCl ((zw D cA sz a b).2.2 11, zc (zw D cA sz a b) M0 11) H := h 13 (by decide)
theorem za_12 {D : va_G} {cA : Nat → ClassId} {sz a b : Nat} {f : Nat → va_E} {H : Heap} (h : bP (zw D cA sz a b) sz 154 (fA D cA sz a b f) H) : va_at D vwCl ((zw D cA sz a b).2.2 12, zc (zw D cA sz a b) M0 12) H := h 14 (by decide)
theorem za_13 {D : va_G} {cA : Nat → ClassId} {sz a b : Nat} {f : Nat → va_E} {H : Heap} (h : bP (zw D cA sz a b) sz 154 (fA D cA sz a b f) H) : va_at D vwCl ((zw D cA sz a b).2.2 13, zc (zw D cA sz a b) M0 13) H := h 15 (by decide)
theorem za_14 {D : va_G} {cA : Nat → ClassId} {sz a b : Nat} {f : Nat → va_E} {H : Heap} (h : bP (zw D cA sz a b) sz 154 (fA D cA sz a b f) H) : va_at D vwCl ((zw D cA sz a b).2.2 14, zc (zw D cA sz a b) M0 14) H := h 4 (by decide)
theorem za_15 {D : va_G} {cA : Nat → ClassId} {sz a b : Nat} {f : Nat → va_E} {H : Heap} (h : bP (zw D cA sz a b) sz 154 (fA D cA sz a b f) H) : va_at D vwCl ((zw D cA sz a b).2.2 15, zc (zw D cA sz a b) M0 15) H := h 5 (by decide)
theorem za_16 {D : va_G} {cA : Nat → ClassId} {sz a b : Nat} {f : Nat → va_E} {H : Heap} (h : bP (zw D cA sz a b) sz 154 (fA D cA sz a b f) H) : va_at D vwCl ((zw D cA sz a b).2.2 16, zc (zw D cA sz a b) M0 16) H := h 16 (by decide)
theorem za_17 {D : va_G} {cA : Nat → ClassId} {sz a b : Nat} {f : Nat → va_E} {H : Heap} (h : bP (zw D cA sz a b) sz 154 (fA D cA sz a b f) H) : va_at D vwCl ((zw D cA sz a b).2.2 17, zc (zw D cA sz a b) M0 17) H := Eq.trans (show H[sz + 17]? = some (vp_cell (cA 1) (9, .inl (fun _ => 0))) from h 17 (by decide)) (congrArg some (vpi_ext (fun j _ => M0_tr j 16 (by decide))))
theorem za_18 {D : va_G} {cA : Nat → ClassId} {sz a b : Nat} {f : Nat → va_E} {H : Heap} (h : bP (zw D cA sz a b) sz 154 (fA D cA sz a b f) H) : va_at D vwCl ((zw D cA sz a b).2.2 18, zc (zw D cA sz a b) M0 18) H := Eq.trans (show H[sz + 18]? = some (vp_cell (cA 5) (8, .inr (.inr (.inr (.inr (fun q => if q < 8 then some (sz + (19 + 2 * q)) else none)))))) from h 18 (by decide)) (congrArg some (vpq_ext (fun j hj => (by show some (zad sz a b (18 + 1 + 2 * (nI j).toNatClampNeg)) = _; rw [nI_clamp (by omega), if_pos hj]; unfold zad; rw [if_pos (by omega), (by decide +kernel : ∀ j, j < 8 → zpm (18 + 1 + 2 * j) = 19 + 2 * j) j hj]))))
theorem za_19 {D : va_G} {cA : Nat → ClassId} {sz a b : Nat} {f : Nat → va_E} {H : Heap} (h : bP (zw D cA sz a b) sz 154 (fA D cA sz a b f) H) : va_at D vwCl ((zw D cA sz a b).2.2 19, zc (zw D cA sz a b) M0 19) H := h 19 (by decide)
theorem za_20 {D : va_G} {cA : Nat → ClassId} {sz a b : Nat} {f : Nat → va_E} {H : Heap} (h : bP (zw D cA sz a b) sz 154 (fA D cA sz a b f) H) : va_at D vwCl ((zw D cA sz a b).2.2 20, zc (zw D cA sz a b) M0 20) H := Eq.trans (show H[sz + 20]? = some (vp_cell (cA 1) (9, .inl (fun _ => 0))) from h 20 (by decide)) (congrArg some (vpi_ext (fun j _ => M0_tr j 19 (by decide))))
theorem za_21 {D : va_G} {cA : Nat → ClassId} {sz a b : Nat} {f : Nat → va_E} {H : Heap} (h : bP (zw D cA sz a b) sz 154 (fA D cA sz a b f) H) : va_at D vwCl ((zw D cA sz a b).2.2 21, zc (zw D cA sz a b) M0 21) H := h 21 (by decide)
theorem za_22 {D : va_G} {cA : Nat → ClassId} {sz a b : Nat} {f : Nat → va_E} {H : Heap} (h : bP (zw D cA sz a b) sz 154 (fA D cA sz a b f) H) : va_at D vwCl ((zw D cA sz a b).2.2 22, zc (zw D cA sz a b) M0 22) H := Eq.trans (show H[sz + 22]? = some (vp_cell (cA 1) (9, .inl (fun _ => 0))) from h 22 (by decide)) (congrArg some (vpi_ext (fun j _ => M0_tr j 21 (by decide))))
theorem za_23 {D : va_G} {cA : Nat → ClassId} {sz a b : Nat} {f : Nat → va_E} {H : Heap} (h : bP (zw D cA sz a b) sz 154 (fA D cA sz a b f) H) : va_at D vwCl ((zw D cA sz a b).2.2 23, zc (zw D cA sz a b) M0 23) H := h 23 (by decide)
theorem za_24 {D : va_G} {cA : Nat → ClassId} {sz a b : Nat} {f : Nat → va_E} {H : Heap} (h : bP (zw D cA sz a b) sz 154 (fA D cA sz a b f) H) : va_at D vwCl ((zw D cA sz a b).2.2 24, zc (zw D cA sz a b) M0 24) H := Eq.trans (show H[sz + 24]? = some (vp_cell (cA 1) (9, .inl (fun _ => 0))) from h 24 (by decide)) (congrArg some (vpi_ext (fun j _ => M0_tr j 23 (by decide))))
theorem za_25 {D : va_G} {cA : Nat → ClassId} {sz a b : Nat} {f : Nat → va_E} {H : Heap} (h : bP (zw D cA sz a b) sz 154 (fA D cA sz a b f) H) : va_at D vwCl ((zw D cA sz a b).2.2 25, zc (zw D cA sz a b) M0 25) H := h 25 (by decide)
theorem za_26 {D : va_G} {cA : Nat → ClassId} {sz a b : Nat} {f : Nat → va_E} {H : Heap} (h : bP (zw D cA sz a b) sz 154 (fA D cA sz a b f) H) : va_at D vwCl ((zw D cA sz a b).2.2 26, zc (zw D cA sz a b) M0 26) H := Eq.trans (show H[sz + 26]? = some (vp_cell (cA 1) (9, .inl (fun _ => 0))) from h 26 (by decide)) (congrArg some (vpi_ext (fun j _ => M0_tr j 25 (by decide))))
theorem za_27 {D : va_G} {cA : Nat → ClassId} {sz a b : Nat} {f : Nat → va_E} {H : Heap} (h : bP (zw D cA sz a b) sz 154 (fA D cA sz a b f) H) : va_at D vwCl ((zw D cA sz a b).2.2 27, zc (zw D cA sz a b) M0 27) H := h 27 (by decide)
theorem za_28 {D : va_G} {cA : Nat → ClassId} {sz a b : Nat} {f : Nat → va_E} {H : Heap} (h : bP (zw D cA sz a b) sz 154 (fA D cA sz a b f) H) : va_at D vwCl ((zw D cA sz a b).2.2 28, zc (zw D cA sz a b) M0 28) H := Eq.trans (show H[sz + 28]? = some (vp_cell (cA 1) (9, .inl (fun _ => 0))) from h 28 (by decide)) (congrArg some (vpi_ext (fun j _ => M0_tr j 27 (by decide))))
theorem za_29 {D : va_G} {cA : Nat → ClassId} {sz a b : Nat} {f : Nat → va_E} {H : Heap} (h : bP (zw D cA sz a b) sz 154 (fA D cA sz a b f) H) : va_at D vwCl ((zw D cA sz a b).2.2 29, zc (zw D cA sz a b) M0 29) H := h 29 (by decide)
theorem za_30 {D : va_G} {cA : Nat → ClassId} {sz a b : Nat} {f : Nat → va_E} {H : Heap} (h : bP (zw D cA sz a b) sz 154 (fA D cA sz a b f) H) : va_at D vwCl ((zw D cA sz a b).2.2 30, zc (zw D cA sz a b) M0 30) H := Eq.trans (show H[sz + 30]? = some (vp_cell (cA 1) (9, .inl (fun _ => 0))) from h 30 (by decide)) (congrArg some (vpi_ext (fun j _ => M0_tr j 29 (by decide))))
theorem za_31 {D : va_G} {cA : Nat → ClassId} {sz a b : Nat} {f : Nat → va_E} {H : Heap} (h : bP (zw D cA sz a b) sz 154 (fA D cA sz a b f) H) : va_at D vwCl ((zw D cA sz a b).2.2 31, zc (zw D cA sz a b) M0 31) H := h 31 (by decide)
theorem za_32 {D : va_G} {cA : Nat → ClassId} {sz a b : Nat} {f : Nat → va_E} {H : Heap} (h : bP (zw D cA sz a b) sz 154 (fA D cA sz a b f) H) : va_at D vwCl ((zw D cA sz a b).2.2 32, zc (zw D cA sz a b) M0 32) H := Eq.trans (show H[sz + 32]? = some (vp_cell (cA 1) (9, .inl (fun _ => 0))) from h 32 (by decide)) (congrArg some (vpi_ext (fun j _ => M0_tr j 31 (by decide))))
theorem za_33 {D : va_G} {cA : Nat → ClassId} {sz a b : Nat} {f : Nat → va_E} {H : Heap} (h : bP (zw D cA sz a b) sz 154 (fA D cA sz a b f) H) : va_at D vwCl ((zw D cA sz a b).2.2 33, zc (zw D cA sz a b) M0 33) H := h 33 (by decide)
theorem za_34 {D : va_G} {cA : Nat → ClassId} {sz a b : Nat} {f : Nat → va_E} {H : Heap} (h : bP (zw D cA sz a b) sz 154 (fA D cA sz a b f) H) : va_at D vwCl ((zw D cA sz a b).2.2 34, zc (zw D cA sz a b) M0 34) H := Eq.trans (show H[sz + 34]? = some (vp_cell (cA 1) (9, .inl (fun _ => 0))) from h 34 (by decide)) (congrArg some (vpi_ext (fun j _ => M0_tr j 33 (by decide))))
theorem za_35 {D : va_G} {cA : Nat → ClassId} {sz a b : Nat} {f : Nat → va_E} {H : Heap} (h : bP (zw D cA sz a b) sz 154 (fA D cA sz a b f) H) : va_at D vwCl ((zw D cA sz a b).2.2 35, zc (zw D cA sz a b) M0 35) H := h 35 (by decide)
theorem za_36 {D : va_G} {cA : Nat → ClassId} {sz a b : Nat} {f : Nat → va_E} {H : Heap} (h : bP (zw D cA sz a b) sz 154 (fA D cA sz a b f) H) : va_at D vwCl ((zw D cA sz a b).2.2 36, zc (zw D cA sz a b) M0 36) H := h 36 (by decide)
theorem za_37 {D : va_G} {cA : Nat → ClassId} {sz a b : Nat} {f : Nat → va_E} {H : Heap} (h : bP (zw D cA sz a b) sz 154 (fA D cA sz a b f) H) : va_at D vwCl ((zw D cA sz a b).2.2 37, zc (zw D cA sz a b) M0 37) H := Eq.trans (show H[sz + 37]? = some (vp_cell (cA 4) (10, .inr (.inr (.inr (.inr (fun q => if q < 10 then some (sz + (40 + 1 * q)) else none)))))) from h 37 (by decide)) (congrArg some (vpq_ext (fun j hj => (by show some (zad sz a b (37 + 1 + j)) = _; rw [if_pos hj]; unfold zad; rw [if_pos (by omega), (by decide +kernel : ∀ j, j < 10 → zpm (37 + 1 + j) = 40 + 1 * j) j hj]))))
theorem za_38 {D : va_G} {cA : Nat → ClassId} {sz a b : Nat} {f : Nat → va_E} {H : Heap} (h : bP (zw D cA sz a b) sz 154 (fA D cA sz a b f) H) : va_at D vwCl ((zw D cA sz a b).2.2 38, zc (zw D cA sz a b) M0 38) H := h 40 (by decide)
theorem za_39 {D : va_G} {cA : Nat → ClassId} {sz a b : Nat} {f : Nat → va_E} {H : Heap} (h : bP (zw D cA sz a b) sz 154 (fA D cA sz a b f) H) : va_at D vwCl ((zw D cA sz a b).2.2 39, zc (zw D cA sz a b) M0 39) H := h 41 (by decide)
theorem za_40 {D : va_G} {cA : Nat → ClassId} {sz a b : Nat} {f : Nat → va_E} {H : Heap} (h : bP (zw D cA sz a b) sz 154 (fA D cA sz a b f) H) : va_at D vwCl ((zw D cA sz a b).2.2 40, zc (zw D cA sz a b) M0 40) H := h 42 (by decide)
theorem za_41 {D : va_G} {cA : Nat → ClassId} {sz a b : Nat} {f : Nat → va_E} {H : Heap} (h : bP (zw D cA sz a b) sz 154 (fA D cA sz a b f) H) : va_at D vwCl ((zw D cA sz a b).2.2 41, zc (zw D cA sz a b) M0 41) H := h 43 (by decide)
theorem za_42 {D : va_G} {cA : Nat → ClassId} {sz a b : Nat} {f : Nat → va_E} {H : Heap} (h : bP (zw D cA sz a b) sz 154 (fA D cA sz a b f) H) : va_at D vwCl ((zw D cA sz a b).2.2 42, zc (zw D cA sz a b) M0 42) H := h 44 (by decide)
theorem za_43 {D : va_G} {cA : Nat → ClassId} {sz a b : Nat} {f : Nat → va_E} {H : Heap} (h : bP (zw D cA sz a b) sz 154 (fA D cA sz a b f) H) : va_at D vwCl ((zw D cA sz a b).2.2 43, zc (zw D cA sz a b) M0 43) H := h 45 (by decide)
theorem za_44 {D : va_G} {cA : Nat → ClassId} {sz a b : Nat} {f : Nat → va_E} {H : Heap} (h : bP (zw D cA sz a b) sz 154 (fA D cA sz a b f) H) : va_at D vwCl ((zw D cA sz a b).2.2 44, zc (zw D cA sz a b) M0 44) H := h 46 (by decide)
theorem za_45 {D : va_G} {cA : Nat → ClassId} {sz a b : Nat} {f : Nat → va_E} {H : Heap} (h : bP (zw D cA sz a b) sz 154 (fA D cA sz a b f) H) : va_at D vwCl ((zw D cA sz a b).2.2 45, zc (zw D cA sz a b) M0 45) H := h 47 (by decide)
theorem za_46 {D : va_G} {cA : Nat → ClassId} {sz a b : Nat} {f : Nat → va_E} {H : Heap} (h : bP (zw D cA sz a b) sz 154 (fA D cA sz a b f) H) : va_at D vwCl ((zw D cA sz a b).2.2 46, zc (zw D cA sz a b) M0 46) H := h 48 (by decide)
theorem za_47 {D : va_G} {cA : Nat → ClassId} {sz a b : Nat} {f : Nat → va_E} {H : Heap} (h : bP (zw D cA sz a b) sz 154 (fA D cA sz a b f) H) : va_at D vwCl ((zw D cA sz a b).2.2 47, zc (zw D cA sz a b) M0 47) H := h 49 (by decide)
theorem za_48 {D : va_G} {cA : Nat → ClassId} {sz a b : Nat} {f : Nat → va_E} {H : Heap} (h : bP (zw D cA sz a b) sz 154 (fA D cA sz a b f) H) : va_at D vwCl ((zw D cA sz a b).2.2 48, zc (zw D cA sz a b) M0 48) H := h 38 (by decide)
theorem za_49 {D : va_G} {cA : Nat → ClassId} {sz a b : Nat} {f : Nat → va_E} {H : Heap} (h : bP (zw D cA sz a b) sz 154 (fA D cA sz a b f) H) : va_at D vwCl ((zw D cA sz a b).2.2 49, zc (zw D cA sz a b) M0 49) H := h 39 (by decide)
theorem za_50 {D : va_G} {cA : Nat → ClassId} {sz a b : Nat} {f : Nat → va_E} {H : Heap} (h : bP (zw D cA sz a b) sz 154 (fA D cA sz a b f) H) : va_at D vwCl ((zw D cA sz a b).2.2 50, zc (zw D cA sz a b) M0 50) H := h 50 (by decide)
theorem za_51 {D : va_G} {cA : Nat → ClassId} {sz a b : Nat} {f : Nat → va_E} {H : Heap} (h : bP (zw D cA sz a b) sz 154 (fA D cA sz a b f) H) : va_at D vwCl ((zw D cA sz a b).2.2 51, zc (zw D cA sz a b) M0 51) H := Eq.trans (show H[sz + 51]? = some (vp_cell (cA 1) (9, .inl (fun _ => 0))) from h 51 (by decide)) (congrArg some (vpi_ext (fun j _ => M0_tr j 50 (by decide))))
theorem za_52 {D : va_G} {cA : Nat → ClassId} {sz a b : Nat} {f : Nat → va_E} {H : Heap} (h : bP (zw D cA sz a b) sz 154 (fA D cA sz a b f) H) : va_at D vwCl ((zw D cA sz a b).2.2 52, zc (zw D cA sz a b) M0 52) H := Eq.trans (show H[sz + 52]? = some (vp_cell (cA 5) (8, .inr (.inr (.inr (.inr (fun q => if q < 8 then some (sz + (53 + 2 * q)) else none)))))) from h 52 (by decide)) (congrArg some (vpq_ext (fun j hj => (by show some (zad sz a b (52 + 1 + 2 * (nI j).toNatClampNeg)) = _; rw [nI_clamp (by omega), if_pos hj]; unfold zad; rw [if_pos (by omega), (by decide +kernel : ∀ j, j < 8 → zpm (52 + 1 + 2 * j) = 53 + 2 * j) j hj]))))
theorem za_53 {D : va_G} {cA : Nat → ClassId} {sz a b : Nat} {f : Nat → va_E} {H : Heap} (h : bP (zw D cA sz a b) sz 154 (fA D cA sz a b f) H) : va_at D vwCl ((zw D cA sz a b).2.2 53, zc (zw D cA sz a b) M0 53) H := h 53 (by decide)
theorem za_54 {D : va_G} {cA : Nat → ClassId} {sz a b : Nat} {f : Nat → va_E} {H : Heap} (h : bP (zw D cA sz a b) sz 154 (fA D cA sz a b f) H) : va_at D vwCl ((zw D cA sz a b).2.2 54, zc (zw D cA sz a b) M0 54) H := Eq.trans (show H[sz + 54]? = some (vp_cell (cA 1) (9, .inl (fun _ => 0))) from h 54 (by decide)) (congrArg some (vpi_ext (fun j _ => M0_tr j 53 (by decide))))
theorem za_55 {D : va_G} {cA : Nat → ClassId} {sz a b : Nat} {f : Nat → va_E} {H : Heap} (h : bP (zw D cA sz a b) sz 154 (fA D cA sz a b f) H) : va_at D vwCl ((zw D cA sz a b).2.2 55, zc (zw D cA sz a b) M0 55) H := h 55 (by decide)
theorem za_56 {D : va_G} {cA : Nat → ClassId} {sz a b : Nat} {f : Nat → va_E} {H : Heap} (h : bP (zw D cA sz a b) sz 154 (fA D cA sz a b f) H) : va_at D vwCl ((zw D cA sz a b).2.2 56, zc (zw D cA sz a b) M0 56) H := Eq.trans (show H[sz + 56]? = some (vp_cell (cA 1) (9, .inl (fun _ => 0))) from h 56 (by decide)) (congrArg some (vpi_ext (fun j _ => M0_tr j 55 (by decide))))
theorem za_57 {D : va_G} {cA : Nat → ClassId} {sz a b : Nat} {f : Nat → va_E} {H : Heap} (h : bP (zw D cA sz a b) sz 154 (fA D cA sz a b f) H) : va_at D vwCl ((zw D cA sz a b).2.2 57, zc (zw D cA sz a b) M0 57) H := h 57 (by decide)
theorem za_58 {D : va_G} {cA : Nat → ClassId} {sz a b : Nat} {f : Nat → va_E} {H : Heap} (h : bP (zw D cA sz a b) sz 154 (fA D cA sz a b f) H) : va_at D vwCl ((zw D cA sz a b).2.2 58, zc (zw D cA sz a b) M0 58) H := Eq.trans (show H[sz + 58]? = some (vp_cell (cA 1) (9, .inl (fun _ => 0))) from h 58 (by decide)) (congrArg some (vpi_ext (fun j _ => M0_tr j 57 (by decide))))
theorem za_59 {D : va_G} {cA : Nat → ClassId} {sz a b : Nat} {f : Nat → va_E} {H : Heap} (h : bP (zw D cA sz a b) sz 154 (fA D cA sz a b f) H) : va_at D vwCl ((zw D cA sz a b).2.2 59, zc (zw D cA sz a b) M0 59) H := h 59 (by decide)
theorem za_60 {D : va_G} {cA : Nat → ClassId} {sz a b : Nat} {f : Nat → va_E} {H : Heap} (h : bP (zw D cA sz a b) sz 154 (fA D cA sz a b f) H) : va_at D vwCl ((zw D cA sz a b).2.2 60, zc (zw D cA sz a b) M0 60) H := Eq.trans (show H[sz + 60]? = some (vp_cell (cA 1) (9, .inl (fun _ => 0))) from h 60 (by decide)) (congrArg some (vpi_ext (fun j _ => M0_tr j 59 (by decide))))
theorem za_61 {D : va_G} {cA : Nat → ClassId} {sz a b : Nat} {f : Nat → va_E} {H : Heap} (h : bP (zw D cA sz a b) sz 154 (fA D cA sz a b f) H) : va_at D vwCl ((zw D cA sz a b).2.2 61, zc (zw D cA sz a b) M0 61) H := h 61 (by decide)
theorem za_62 {D : va_G} {cA : Nat → ClassId} {sz a b : Nat} {f : Nat → va_E} {H : Heap} (h : bP (zw D cA sz a b) sz 154 (fA D cA sz a b f) H) : va_at D vwCl ((zw D cA sz a b).2.2 62, zc (zw D cA sz a b) M0 62) H := Eq.trans (show H[sz + 62]? = some (vp_cell (cA 1) (9, .inl (fun _ => 0))) from h 62 (by decide)) (congrArg some (vpi_ext (fun j _ => M0_tr j 61 (by decide))))
theorem za_63 {D : va_G} {cA : Nat → ClassId} {sz a b : Nat} {f : Nat → va_E} {H : Heap} (h : bP (zw D cA sz a b) sz 154 (fA D cA sz a b f) H) : va_at D vwCl ((zw D cA sz a b).2.2 63, zc (zw D cA sz a b) M0 63) H := h 63 (by decide)
theorem za_64 {D : va_G} {cA : Nat → ClassId} {sz a b : Nat} {f : Nat → va_E} {H : Heap} (h : bP (zw D cA sz a b) sz 154 (fA D cA sz a b f) H) : va_at D vwCl ((zw D cA sz a b).2.2 64, zc (zw D cA sz a b) M0 64) H := Eq.trans (show H[sz + 64]? = some (vp_cell (cA 1) (9, .inl (fun _ => 0))) from h 64 (by decide)) (congrArg some (vpi_ext (fun j _ => M0_tr j 63 (by decide))))
theorem za_65 {D : va_G} {cA : Nat → ClassId} {sz a b : Nat} {f : Nat → va_E} {H : Heap} (h : bP (zw D cA sz a b) sz 154 (fA D cA sz a b f) H) : va_at D vwCl ((zw D cA sz a b).2.2 65, zc (zw D cA sz a b) M0 65) H := h 65 (by decide)
theorem za_66 {D : va_G} {cA : Nat → ClassId} {sz a b : Nat} {f : Nat → va_E} {H : Heap} (h : bP (zw D cA sz a b) sz 154 (fA D cA sz a b f) H) : va_at D vwCl ((zw D cA sz a b).2.2 66, zc (zw D cA sz a b) M0 66) H := Eq.trans (show H[sz + 66]? = some (vp_cell (cA 1) (9, .inl (fun _ => 0))) from h 66 (by decide)) (congrArg some (vpi_ext (fun j _ => M0_tr j 65 (by decide))))
theorem za_67 {D : va_G} {cA : Nat → ClassId} {sz a b : Nat} {f : Nat → va_E} {H : Heap} (h : bP (zw D cA sz a b) sz 154 (fA D cA sz a b f) H) : va_at D vwCl ((zw D cA sz a b).2.2 67, zc (zw D cA sz a b) M0 67) H := h 67 (by decide)
theorem za_68 {D : va_G} {cA : Nat → ClassId} {sz a b : Nat} {f : Nat → va_E} {H : Heap} (h : bP (zw D cA sz a b) sz 154 (fA D cA sz a b f) H) : va_at D vwCl ((zw D cA sz a b).2.2 68, zc (zw D cA sz a b) M0 68) H := Eq.trans (show H[sz + 68]? = some (vp_cell (cA 1) (9, .inl (fun _ => 0))) from h 68 (by decide)) (congrArg some (vpi_ext (fun j _ => M0_tr j 67 (by decide))))
theorem za_69 {D : va_G} {cA : Nat → ClassId} {sz a b : Nat} {f : Nat → va_E} {H : Heap} (h : bP (zw D cA sz a b) sz 154 (fA D cA sz a b f) H) : va_at D vwCl ((zw D cA sz a b).2.2 69, zc (zw D cA sz a b) M0 69) H := h 69 (by decide)
theorem za_70 {D : va_G} {cA : Nat → ClassId} {sz a b : Nat} {f : Nat → va_E} {H : Heap} (h : bP (zw D cA sz a b) sz 154 (fA D cA sz a b f) H) : va_at D vwCl ((zw D cA sz a b).2.2 70, zc (zw D cA sz a b) M0 70) H := h 70 (by decide)
theorem za_71 {D : va_G} {cA : Nat → ClassId} {sz a b : Nat} {f : Nat → va_E} {H : Heap} (h : bP (zw D cA sz a b) sz 154 (fA D cA sz a b f) H) : va_at D vwCl ((zw D cA sz a b).2.2 71, zc (zw D cA sz a b) M0 71) H := h 71 (by decide)
theorem za_72 {D : va_G} {cA : Nat → ClassId} {sz a b : Nat} {f : Nat → va_E} {H : Heap} (h : bP (zw D cA sz a b) sz 154 (fA D cA sz a b f) H) : va_at D vwCl ((zw D cA sz a b).2.2 72, zc (zw D cA sz a b) M0 72) H := Eq.trans (show H[sz + 72]? = some (vp_cell (cA 4) (10, .inr (.inr (.inr (.inr (fun q => if q < 10 then some (sz + (75 + 1 * q)) else none)))))) from h 72 (by decide)) (congrArg some (vpq_ext (fun j hj => (by show some (zad sz a b (72 + 1 + j)) = _; rw [if_pos hj]; unfold zad; rw [if_pos (by omega), (by decide +kernel : ∀ j, j < 10 → zpm (72 + 1 + j) = 75 + 1 * j) j hj]))))
theorem za_73 {D : va_G} {cA : Nat → ClassId} {sz a b : Nat} {f : Nat → va_E} {H : Heap} (h : bP (zw D cA sz a b) sz 154 (fA D cA sz a b f) H) : va_at D vwCl ((zw D cA sz a b).2.2 73, zc (zw D cA sz a b) M0 73) H := h 75 (by decide)
theorem za_74 {D : va_G} {cA : Nat → ClassId} {sz a b : Nat} {f : Nat → va_E} {H : Heap} (h : bP (zw D cA sz a b) sz 154 (fA D cA sz a b f) H) : va_at D vwCl ((zw D cA sz a b).2.2 74, zc (zw D cA sz a b) M0 74) H := h 76 (by decide)
theorem za_75 {D : va_G} {cA : Nat → ClassId} {sz a b : Nat} {f : Nat → va_E} {H : Heap} (h : bP (zw D cA sz a b) sz 154 (fA D cA sz a b f) H) : va_at D vwCl ((zw D cA sz a b).2.2 75, zc (zw D cA sz a b) M0 75) H := h 77 (by decide)
theorem za_76 {D : va_G} {cA : Nat → ClassId} {sz a b : Nat} {f : Nat → va_E} {H : Heap} (h : bP (zw D cA sz a b) sz 154 (fA D cA sz a b f) H) : va_at D vwCl ((zw D cA sz a b).2.2 76, zc (zw D cA sz a b) M0 76) H := h 78 (by decide)
theorem za_77 {D : va_G} {cA : Nat → ClassId} {sz a b : Nat} {f : Nat → va_E} {H : Heap} (h : bP (zw D cA sz a b) sz 154 (fA D cA sz a b f) H) : va_at D vwCl ((zw D cA sz a b).2.2 77, zc (zw D cA sz a b) M0 77) H := h 79 (by decide)
theorem za_78 {D : va_G} {cA : Nat → ClassId} {sz a b : Nat} {f : Nat → va_E} {H : Heap} (h : bP (zw D cA sz a b) sz 154 (fA D cA sz a b f) H) : va_at D vwCl ((zw D cA sz a b).2.2 78, zc (zw D cA sz a b) M0 78) H := h 80 (by decide)
theorem za_79 {D : va_G} {cA : Nat → ClassId} {sz a b : Nat} {f : Nat → va_E} {H : Heap} (h : bP (zw D cA sz a b) sz 154 (fA D cA sz a b f) H) : va_at D vwCl ((zw D cA sz a b).2.2 79, zc (zw D cA sz a b) M0 79) H := h 81 (by decide)
theorem za_80 {D : va_G} {cA : Nat → ClassId} {sz a b : Nat} {f : Nat → va_E} {H : Heap} (h : bP (zw D cA sz a b) sz 154 (fA D cA sz a b f) H) : va_at D vwCl ((zw D cA sz a b).2.2 80, zc (zw D cA sz a b) M0 80) H := h 82 (by decide)
theorem za_81 {D : va_G} {cA : Nat → ClassId} {sz a b : Nat} {f : Nat → va_E} {H : Heap} (h : bP (zw D cA sz a b) sz 154 (fA D cA sz a b f) H) : va_at D vwCl ((zw D cA sz a b).2.2 81, zc (zw D cA sz a b) M0 81) H := h 83 (by decide)
theorem za_82 {D : va_G} {cA : Nat → ClassId} {sz a b : Nat} {f : Nat → va_E} {H : Heap} (h : bP (zw D cA sz a b) sz 154 (fA D cA sz a b f) H) : va_at D vwCl ((zw D cA sz a b).2.2 82, zc (zw D cA sz a b) M0 82) H := h 84 (by decide)
theorem za_83 {D : va_G} {cA : Nat → ClassId} {sz a b : Nat} {f : Nat → va_E} {H : Heap} (h : bP (zw D cA sz a b) sz 154 (fA D cA sz a b f) H) : va_at D vwCl ((zw D cA sz a b).2.2 83, zc (zw D cA sz a b) M0 83) H := h 73 (by decide)
theorem za_84 {D : va_G} {cA : Nat → ClassId} {sz a b : Nat} {f : Nat → va_E} {H : Heap} (h : bP (zw D cA sz a b) sz 154 (fA D cA sz a b f) H) : va_at D vwCl ((zw D cA sz a b).2.2 84, zc (zw D cA sz a b) M0 84) H := h 74 (by decide)
theorem za_85 {D : va_G} {cA : Nat → ClassId} {sz a b : Nat} {f : Nat → va_E} {H : Heap} (h : bP (zw D cA sz a b) sz 154 (fA D cA sz a b f) H) : va_at D vwCl ((zw D cA sz a b).2.2 85, zc (zw D cA sz a b) M0 85) H := h 85 (by decide)
theorem za_86 {D : va_G} {cA : Nat → ClassId} {sz a b : Nat} {f : Nat → va_E} {H : Heap} (h : bP (zw D cA sz a b) sz 154 (fA D cA sz a b f) H) : va_at D vwCl ((zw D cA sz a b).2.2 86, zc (zw D cA sz a b) M0 86) H := Eq.trans (show H[sz + 86]? = some (vp_cell (cA 1) (9, .inl (fun _ => 0))) from h 86 (by decide)) (congrArg some (vpi_ext (fun j _ => M0_tr j 85 (by decide))))
theorem za_87 {D : va_G} {cA : Nat → ClassId} {sz a b : Nat} {f : Nat → va_E} {H : Heap} (h : bP (zw D cA sz a b) sz 154 (fA D cA sz a b f) H) : va_at D vwCl ((zw D cA sz a b).2.2 87, zc (zw D cA sz a b) M0 87) H := h 87 (by decide)
theorem za_88 {D : va_G} {cA : Nat → ClassId} {sz a b : Nat} {f : Nat → va_E} {H : Heap} (h : bP (zw D cA sz a b) sz 154 (fA D cA sz a b f) H) : va_at D vwCl ((zw D cA sz a b).2.2 88, zc (zw D cA sz a b) M0 88) H := h 88 (by decide)
theorem za_89 {D : va_G} {cA : Nat → ClassId} {sz a b : Nat} {f : Nat → va_E} {H : Heap} (h : bP (zw D cA sz a b) sz 154 (fA D cA sz a b f) H) : va_at D vwCl ((zw D cA sz a b).2.2 89, zc (zw D cA sz a b) M0 89) H := Eq.trans (show H[sz + 89]? = some (vp_cell (cA 4) (10, .inr (.inr (.inr (.inr (fun q => if q < 10 then some (sz + (92 + 1 * q)) else none)))))) from h 89 (by decide)) (congrArg some (vpq_ext (fun j hj => (by show some (zad sz a b (89 + 1 + j)) = _; rw [if_pos hj]; unfold zad; rw [if_pos (by omega), (by decide +kernel : ∀ j, j < 10 → zpm (89 + 1 + j) = 92 + 1 * j) j hj]))))
theorem za_90 {D : va_G} {cA : Nat → ClassId} {sz a b : Nat} {f : Nat → va_E} {H : Heap} (h : bP (zw D cA sz a b) sz 154 (fA D cA sz a b f) H) : va_at D vwCl ((zw D cA sz a b).2.2 90, zc (zw D cA sz a b) M0 90) H := h 92 (by decide)
theorem za_91 {D : va_G} {cA : Nat → ClassId} {sz a b : Nat} {f : Nat → va_E} {H : Heap} (h : bP (zw D cA sz a b) sz 154 (fA D cA sz a b f) H) : va_at D vwCl ((zw D cA sz a b).2.2 91, zc (zw D cA sz a b) M0 91) H := h 93 (by decide)
theorem za_92 {D : va_G} {cA : Nat → ClassId} {sz a b : Nat} {f : Nat → va_E} {H : Heap} (h : bP (zw D cA sz a b) sz 154 (fA D cA sz a b f) H) : va_at D vwCl ((zw D cA sz a b).2.2 92, zc (zw D cA sz a b) M0 92) H := h 94 (by decide)
theorem za_93 {D : va_G} {cA : Nat → ClassId} {sz a b : Nat} {f : Nat → va_E} {H : Heap} (h : bP (zw D cA sz a b) sz 154 (fA D cA sz a b f) H) : va_at D vwCl ((zw D cA sz a b).2.2 93, zc (zw D cA sz a b) M0 93) H := h 95 (by decide)
theorem za_94 {D : va_G} {cA : Nat → ClassId} {sz a b : Nat} {f : Nat → va_E} {H : Heap} (h : bP (zw D cA sz a b) sz 154 (fA D cA sz a b f) H) : va_at D vwCl ((zw D cA sz a b).2.2 94, zc (zw D cA sz a b) M0 94) H := h 96 (by decide)
theorem za_95 {D : va_G} {cA : Nat → ClassId} {sz a b : Nat} {f : Nat → va_E} {H : Heap} (h : bP (zw D cA sz a b) sz 154 (fA D cA sz a b f) H) : va_at D vwCl ((zw D cA sz a b).2.2 95, zc (zw D cA sz a b) M0 95) H := h 97 (by decide)
theorem za_96 {D : va_G} {cA : Nat → ClassId} {sz a b : Nat} {f : Nat → va_E} {H : Heap} (h : bP (zw D cA sz a b) sz 154 (fA D cA sz a b f) H) : va_at D vwCl ((zw D cA sz a b).2.2 96, zc (zw D cA sz a b) M0 96) H := h 98 (by decide)
theorem za_97 {D : va_G} {cA : Nat → ClassId} {sz a b : Nat} {f : Nat → va_E} {H : Heap} (h : bP (zw D cA sz a b) sz 154 (fA D cA sz a b f) H) : va_at D vwCl ((zw D cA sz a b).2.2 97, zc (zw D cA sz a b) M0 97) H := h 99 (by decide)
theorem za_98 {D : va_G} {cA : Nat → ClassId} {sz a b : Nat} {f : Nat → va_E} {H : Heap} (h : bP (zw D cA sz a b) sz 154 (fA D cA sz a b f) H) : va_at D vwCl ((zw D cA sz a b).2.2 98, zc (zw D cA sz a b) M0 98) H := h 100 (by decide)
theorem za_99 {D : va_G} {cA : Nat → ClassId} {sz a b : Nat} {f : Nat → va_E} {H : Heap} (h : bP (zw D cA sz a b) sz 154 (fA D cA sz a b f) H) : va_at D vwCl ((zw D cA sz a b).2.2 99, zc (zw D cA sz a b) M0 99) H := h 101 (by decide)
theorem za_100 {D : va_G} {cA : Nat → ClassId} {sz a b : Nat} {f : Nat → va_E} {H : Heap} (h : bP (zw D cA sz a b) sz 154 (fA D cA sz a b f) H) : va_at D vwCl ((zw D cA sz a b).2.2 100, zc (zw D cA sz a b) M0 100) H := h 90 (by decide)
theorem za_101 {D : va_G} {cA : Nat → ClassId} {sz a b : Nat} {f : Nat → va_E} {H : Heap} (h : bP (zw D cA sz a b) sz 154 (fA D cA sz a b f) H) : va_at D vwCl ((zw D cA sz a b).2.2 101, zc (zw D cA sz a b) M0 101) H := h 91 (by decide)
theorem za_102 {D : va_G} {cA : Nat → ClassId} {sz a b : Nat} {f : Nat → va_E} {H : Heap} (h : bP (zw D cA sz a b) sz 154 (fA D cA sz a b f) H) : va_at D vwCl ((zw D cA sz a b).2.2 102, zc (zw D cA sz a b) M0 102) H := h 102 (by decide)
theorem za_103 {D : va_G} {cA : Nat → ClassId} {sz a b : Nat} {f : Nat → va_E} {H : Heap} (h : bP (zw D cA sz a b) sz 154 (fA D cA sz a b f) H) : va_at D vwCl ((zw D cA sz a b).2.2 103, zc (zw D cA sz a b) M0 103) H := Eq.trans (show H[sz + 103]? = some (vp_cell (cA 1) (9, .inl (fun _ => 0))) from h 103 (by decide)) (congrArg some (vpi_ext (fun j _ => M0_tr j 102 (by decide))))
theorem za_104 {D : va_G} {cA : Nat → ClassId} {sz a b : Nat} {f : Nat → va_E} {H : Heap} (h : bP (zw D cA sz a b) sz 154 (fA D cA sz a b f) H) : va_at D vwCl ((zw D cA sz a b).2.2 104, zc (zw D cA sz a b) M0 104) H := h 104 (by decide)
theorem za_105 {D : va_G} {cA : Nat → ClassId} {sz a b : Nat} {f : Nat → va_E} {H : Heap} (h : bP (zw D cA sz a b) sz 154 (fA D cA sz a b f) H) : va_at D vwCl ((zw D cA sz a b).2.2 105, zc (zw D cA sz a b) M0 105) H := Eq.trans (show H[sz + 105]? = some (vp_cell (cA 1) (9, .inl (fun _ => 0))) from h 105 (by decide)) (congrArg some (vpi_ext (fun j _ => M0_tr j 104 (by decide))))
theorem za_106 {D : va_G} {cA : Nat → ClassId} {sz a b : Nat} {f : Nat → va_E} {H : Heap} (h : bP (zw D cA sz a b) sz 154 (fA D cA sz a b f) H) : va_at D vwCl ((zw D cA sz a b).2.2 106, zc (zw D cA sz a b) M0 106) H := Eq.trans (show H[sz + 106]? = some (vp_cell (cA 5) (11, .inr (.inr (.inr (.inr (fun q => if q < 11 then some (sz + (107 + 2 * q)) else none)))))) from h 106 (by decide)) (congrArg some (vpq_ext (fun j hj => (by show some (zad sz a b (106 + 1 + 2 * j)) = _; rw [if_pos hj]; unfold zad; rw [if_pos (by omega), (by decide +kernel : ∀ j, j < 11 → zpm (106 + 1 + 2 * j) = 107 + 2 * j) j hj]))))
theorem za_107 {D : va_G} {cA : Nat → ClassId} {sz a b : Nat} {f : Nat → va_E} {H : Heap} (h : bP (zw D cA sz a b) sz 154 (fA D cA sz a b f) H) : va_at D vwCl ((zw D cA sz a b).2.2 107, zc (zw D cA sz a b) M0 107) H := h 107 (by decide)
theorem za_108 {D : va_G} {cA : Nat → ClassId} {sz a b : Nat} {f : Nat → va_E} {H : Heap} (h : bP (zw D cA sz a b) sz 154 (fA D cA sz a b f) H) : va_at D vwCl ((zw D cA sz a b).2.2 108, zc (zw D cA sz a b) M0 108) H := Eq.trans (show H[sz + 108]? = some (vp_cell (cA 1) (9, .inl (fun _ => 0))) from h 108 (by decide)) (congrArg some (vpi_ext (fun j _ => M0_tr j 107 (by decide))))
theorem za_109 {D : va_G} {cA : Nat → ClassId} {sz a b : Nat} {f : Nat → va_E} {H : Heap} (h : bP (zw D cA sz a b) sz 154 (fA D cA sz a b f) H) : va_at D vwCl ((zw D cA sz a b).2.2 109, zc (zw D cA sz a b) M0 109) H := h 109 (by decide)
theorem za_110 {D : va_G} {cA : Nat → ClassId} {sz a b : Nat} {f : Nat → va_E} {H : Heap} (h : bP (zw D cA sz a b) sz 154 (fA D cA sz a b f) H) : va_at D vwCl ((zw D cA sz a b).2.2 110, zc (zw D cA sz a b) M0 110) H := Eq.trans (show H[sz + 110]? = some (vp_cell (cA 1) (9, .inl (fun _ => 0))) from h 110 (by decide)) (congrArg some (vpi_ext (fun j _ => M0_tr j 109 (by decide))))
theorem za_111 {D : va_G} {cA : Nat → ClassId} {sz a b : Nat} {f : Nat → va_E} {H : Heap} (h : bP (zw D cA sz a b) sz 154 (fA D cA sz a b f) H) : va_at D vwCl ((zw D cA sz a b).2.2 111, zc (zw D cA sz a b) M0 111) H := h 111 (by decide)
theorem za_112 {D : va_G} {cA : Nat → ClassId} {sz a b : Nat} {f : Nat → va_E} {H : Heap} (h : bP (zw D cA sz a b) sz 154 (fA D cA sz a b f) H) : va_at D vwCl ((zw D cA sz a b).2.2 112, zc (zw D cA sz a b) M0 112) H := Eq.trans (show H[sz + 112]? = some (vp_cell (cA 1) (9, .inl (fun _ => 0))) from h 112 (by decide)) (congrArg some (vpi_ext (fun j _ => M0_tr j 111 (by decide))))
theorem za_113 {D : va_G} {cA : Nat → ClassId} {sz a b : Nat} {f : Nat → va_E} {H : Heap} (h : bP (zw D cA sz a b) sz 154 (fA D cA sz a b f) H) : va_at D vwCl ((zw D cA sz a b).2.2 113, zc (zw D cA sz a b) M0 113) H := h 113 (by decide)
theorem za_114 {D : va_G} {cA : Nat → ClassId} {sz a b : Nat} {f : Nat → va_E} {H : Heap} (h : bP (zw D cA sz a b) sz 154 (fA D cA sz a b f) H) : va_at D vwCl ((zw D cA sz a b).2.2 114, zc (zw D cA sz a b) M0 114) H := Eq.trans (show H[sz + 114]? = some (vp_cell (cA 1) (9, .inl (fun _ => 0))) from h 114 (by decide)) (congrArg some (vpi_ext (fun j _ => M0_tr j 113 (by decide))))
theorem za_115 {D : va_G} {cA : Nat → ClassId} {sz a b : Nat} {f : Nat → va_E} {H : Heap} (h : bP (zw D cA sz a b) sz 154 (fA D cA sz a b f) H) : va_at D vwCl ((zw D cA sz a b).2.2 115, zc (zw D cA sz a b) M0 115) H := h 115 (by decide)
theorem za_116 {D : va_G} {cA : Nat → ClassId} {sz a b : Nat} {f : Nat → va_E} {H : Heap} (h : bP (zw D cA sz a b) sz 154 (fA D cA sz a b f) H) : va_at D vwCl ((zw D cA sz a b).2.2 116, zc (zw D cA sz a b) M0 116) H := Eq.trans (show H[sz + 116]? = some (vp_cell (cA 1) (9, .inl (fun _ => 0))) from h 116 (by decide)) (congrArg some (vpi_ext (fun j _ => M0_tr j 115 (by decide))))
theorem za_117 {D : va_G} {cA : Nat → ClassId} {sz a b : Nat} {f : Nat → va_E} {H : Heap} (h : bP (zw D cA sz a b) sz 154 (fA D cA sz a b f) H) : va_at D vwCl ((zw D cA sz a b).2.2 117, zc (zw D cA sz a b) M0 117) H := h 117 (by decide)
theorem za_118 {D : va_G} {cA : Nat → ClassId} {sz a b : Nat} {f : Nat → va_E} {H : Heap} (h : bP (zw D cA sz a b) sz 154 (fA D cA sz a b f) H) : va_at D vwCl ((zw D cA sz a b).2.2 118, zc (zw D cA sz a b) M0 118) H := Eq.trans (show H[sz + 118]? = some (vp_cell (cA 1) (9, .inl (fun _ => 0))) from h 118 (by decide)) (congrArg some (vpi_ext (fun j _ => M0_tr j 117 (by decide))))
theorem za_119 {D : va_G} {cA : Nat → ClassId} {sz a b : Nat} {f : Nat → va_E} {H : Heap} (h : bP (zw D cA sz a b) sz 154 (fA D cA sz a b f) H) : va_at D vwCl ((zw D cA sz a b).2.2 119, zc (zw D cA sz a b) M0 119) H := h 119 (by decide)
theorem za_120 {D : va_G} {cA : Nat → ClassId} {sz a b : Nat} {f : Nat → va_E} {H : Heap} (h : bP (zw D cA sz a b) sz 154 (fA D cA sz a b f) H) : va_at D vwCl ((zw D cA sz a b).2.2 120, zc (zw D cA sz a b) M0 120) H := Eq.trans (show H[sz + 120]? = some (vp_cell (cA 1) (9, .inl (fun _ => 0))) from h 120 (by decide)) (congrArg some (vpi_ext (fun j _ => M0_tr j 119 (by decide))))
theorem za_121 {D : va_G} {cA : Nat → ClassId} {sz a b : Nat} {f : Nat → va_E} {H : Heap} (h : bP (zw D cA sz a b) sz 154 (fA D cA sz a b f) H) : va_at D vwCl ((zw D cA sz a b).2.2 121, zc (zw D cA sz a b) M0 121) H := h 121 (by decide)
theorem za_122 {D : va_G} {cA : Nat → ClassId} {sz a b : Nat} {f : Nat → va_E} {H : Heap} (h : bP (zw D cA sz a b) sz 154 (fA D cA sz a b f) H) : va_at D vwCl ((zw D cA sz a b).2.2 122, zc (zw D cA sz a b) M0 122) H := Eq.trans (show H[sz + 122]? = some (vp_cell (cA 1) (9, .inl (fun _ => 0))) from h 122 (by decide)) (congrArg some (vpi_ext (fun j _ => M0_tr j 121 (by decide))))
theorem za_123 {D : va_G} {cA : Nat → ClassId} {sz a b : Nat} {f : Nat → va_E} {H : Heap} (h : bP (zw D cA sz a b) sz 154 (fA D cA sz a b f) H) : va_at D vwCl ((zw D cA sz a b).2.2 123, zc (zw D cA sz a b) M0 123) H := h 123 (by decide)
theorem za_124 {D : va_G} {cA : Nat → ClassId} {sz a b : Nat} {f : Nat → va_E} {H : Heap} (h : bP (zw D cA sz a b) sz 154 (fA D cA sz a b f) H) : va_at D vwCl ((zw D cA sz a b).2.2 124, zc (zw D cA sz a b) M0 124) H := Eq.trans (show H[sz + 124]? = some (vp_cell (cA 1) (9, .inl (fun _ => 0))) from h 124 (by decide)) (congrArg some (vpi_ext (fun j _ => M0_tr j 123 (by decide))))
theorem za_125 {D : va_G} {cA : Nat → ClassId} {sz a b : Nat} {f : Nat → va_E} {H : Heap} (h : bP (zw D cA sz a b) sz 154 (fA D cA sz a b f) H) : va_at D vwCl ((zw D cA sz a b).2.2 125, zc (zw D cA sz a b) M0 125) H := h 125 (by decide)
theorem za_126 {D : va_G} {cA : Nat → ClassId} {sz a b : Nat} {f : Nat → va_E} {H : Heap} (h : bP (zw D cA sz a b) sz 154 (fA D cA sz a b f) H) : va_at D vwCl ((zw D cA sz a b).2.2 126, zc (zw D cA sz a b) M0 126) H := Eq.trans (show H[sz + 126]? = some (vp_cell (cA 1) (9, .inl (fun _ => 0))) from h 126 (by decide)) (congrArg some (vpi_ext (fun j _ => M0_tr j 125 (by decide))))
theorem za_127 {D : va_G} {cA : Nat → ClassId} {sz a b : Nat} {f : Nat → va_E} {H : Heap} (h : bP (zw D cA sz a b) sz 154 (fA D cA sz a b f) H) : va_at D vwCl ((zw D cA sz a b).2.2 127, zc (zw D cA sz a b) M0 127) H := h 127 (by decide)
theorem za_128 {D : va_G} {cA : Nat → ClassId} {sz a b : Nat} {f : Nat → va_E} {H : Heap} (h : bP (zw D cA sz a b) sz 154 (fA D cA sz a b f) H) : va_at D vwCl ((zw D cA sz a b).2.2 128, zc (zw D cA sz a b) M0 128) H := Eq.trans (show H[sz + 128]? = some (vp_cell (cA 1) (9, .inl (fun _ => 0))) from h 128 (by decide)) (congrArg some (vpi_ext (fun j _ => M0_tr j 127 (by decide))))
theorem za_129 {D : va_G} {cA : Nat → ClassId} {sz a b : Nat} {f : Nat → va_E} {H : Heap} (h : bP (zw D cA sz a b) sz 154 (fA D cA sz a b f) H) : va_at D vwCl ((zw D cA sz a b).2.2 129, zc (zw D cA sz a b) M0 129) H := Eq.trans (show H[sz + 129]? = some (vp_cell (cA 3) (4, .inr (.inr (.inr (.inr (fun q => if q < 4 then some (sz + (130 + 2 * q)) else none)))))) from h 129 (by decide)) (congrArg some (vpq_ext (fun j hj => (by show some (zad sz a b (129 + 1 + 2 * j)) = _; rw [if_pos hj]; unfold zad; rw [if_pos (by omega), (by decide +kernel : ∀ j, j < 4 → zpm (129 + 1 + 2 * j) = 130 + 2 * j) j hj]))))
theorem za_130 {D : va_G} {cA : Nat → ClassId} {sz a b : Nat} {f : Nat → va_E} {H : Heap} (h : bP (zw D cA sz a b) sz 154 (fA D cA sz a b f) H) : va_at D vwCl ((zw D cA sz a b).2.2 130, zc (zw D cA sz a b) M0 130) H := h 130 (by decide)
theorem za_131 {D : va_G} {cA : Nat → ClassId} {sz a b : Nat} {f : Nat → va_E} {H : Heap} (h : bP (zw D cA sz a b) sz 154 (fA D cA sz a b f) H) : va_at D vwCl ((zw D cA sz a b).2.2 131, zc (zw D cA sz a b) M0 131) H := h 131 (by decide)
theorem za_132 {D : va_G} {cA : Nat → ClassId} {sz a b : Nat} {f : Nat → va_E} {H : Heap} (h : bP (zw D cA sz a b) sz 154 (fA D cA sz a b f) H) : va_at D vwCl ((zw D cA sz a b).2.2 132, zc (zw D cA sz a b) M0 132) H := h 132 (by decide)
theorem za_133 {D : va_G} {cA : Nat → ClassId} {sz a b : Nat} {f : Nat → va_E} {H : Heap} (h : bP (zw D cA sz a b) sz 154 (fA D cA sz a b f) H) : va_at D vwCl ((zw D cA sz a b).2.2 133, zc (zw D cA sz a b) M0 133) H := h 133 (by decide)
theorem za_134 {D : va_G} {cA : Nat → ClassId} {sz a b : Nat} {f : Nat → va_E} {H : Heap} (h : bP (zw D cA sz a b) sz 154 (fA D cA sz a b f) H) : va_at D vwCl ((zw D cA sz a b).2.2 134, zc (zw D cA sz a b) M0 134) H := h 134 (by decide)
theorem za_135 {D : va_G} {cA : Nat → ClassId} {sz a b : Nat} {f : Nat → va_E} {H : Heap} (h : bP (zw D cA sz a b) sz 154 (fA D cA sz a b f) H) : va_at D vwCl ((zw D cA sz a b).2.2 135, zc (zw D cA sz a b) M0 135) H := h 135 (by decide)
theorem za_136 {D : va_G} {cA : Nat → ClassId} {sz a b : Nat} {f : Nat → va_E} {H : Heap} (h : bP (zw D cA sz a b) sz 154 (fA D cA sz a b f) H) : va_at D vwCl ((zw D cA sz a b).2.2 136, zc (zw D cA sz a b) M0 136) H := h 136 (by decide)
theorem za_137 {D : va_G} {cA : Nat → ClassId} {sz a b : Nat} {f : Nat → va_E} {H : Heap} (h : bP (zw D cA sz a b) sz 154 (fA D cA sz a b f) H) : va_at D vwCl ((zw D cA sz a b).2.2 137, zc (zw D cA sz a b) M0 137) H := h 137 (by decide)
theorem za_138 {D : va_G} {cA : Nat → ClassId} {sz a b : Nat} {f : Nat → va_E} {H : Heap} (h : bP (zw D cA sz a b) sz 154 (fA D cA sz a b f) H) : va_at D vwCl ((zw D cA sz a b).2.2 138, zc (zw D cA sz a b) M0 138) H := h 138 (by decide)
theorem za_139 {D : va_G} {cA : Nat → ClassId} {sz a b : Nat} {f : Nat → va_E} {H : Heap} (h : bP (zw D cA sz a b) sz 154 (fA D cA sz a b f) H) : va_at D vwCl ((zw D cA sz a b).2.2 139, zc (zw D cA sz a b) M0 139) H := h 139 (by decide)
theorem za_140 {D : va_G} {cA : Nat → ClassId} {sz a b : Nat} {f : Nat → va_E} {H : Heap} (h : bP (zw D cA sz a b) sz 154 (fA D cA sz a b f) H) : va_at D vwCl ((zw D cA sz a b).2.2 140, zc (zw D cA sz a b) M0 140) H := h 140 (by decide)
theorem za_141 {D : va_G} {cA : Nat → ClassId} {sz a b : Nat} {f : Nat → va_E} {H : Heap} (h : bP (zw D cA sz a b) sz 154 (fA D cA sz a b f) H) : va_at D vwCl ((zw D cA sz a b).2.2 141, zc (zw D cA sz a b) M0 141) H := h 141 (by decide)
theorem za_142 {D : va_G} {cA : Nat → ClassId} {sz a b : Nat} {f : Nat → va_E} {H : Heap} (h : bP (zw D cA sz a b) sz 154 (fA D cA sz a b f) H) : va_at D vwCl ((zw D cA sz a b).2.2 142, zc (zw D cA sz a b) M0 142) H := h 142 (by decide)
theorem za_143 {D : va_G} {cA : Nat → ClassId} {sz a b : Nat} {f : Nat → va_E} {H : Heap} (h : bP (zw D cA sz a b) sz 154 (fA D cA sz a b f) H) : va_at D vwCl ((zw D cA sz a b).2.2 143, zc (zw D cA sz a b) M0 143) H := h 143 (by decide)
theorem za_144 {D : va_G} {cA : Nat → ClassId} {sz a b : Nat} {f : Nat → va_E} {H : Heap} (h : bP (zw D cA sz a b) sz 154 (fA D cA sz a b f) H) : va_at D vwCl ((zw D cA sz a b).2.2 144, zc (zw D cA sz a b) M0 144) H := h 144 (by decide)
theorem za_145 {D : va_G} {cA : Nat → ClassId} {sz a b : Nat} {f : Nat → va_E} {H : Heap} (h : bP (zw D cA sz a b) sz 154 (fA D cA sz a b f) H) : va_at D vwCl ((zw D cA sz a b).2.2 145, zc (zw D cA sz a b) M0 145) H := h 145 (by decide)
theorem za_146 {D : va_G} {cA : Nat → ClassId} {sz a b : Nat} {f : Nat → va_E} {H : Heap} (h : bP (zw D cA sz a b) sz 154 (fA D cA sz a b f) H) : va_at D vwCl ((zw D cA sz a b).2.2 146, zc (zw D cA sz a b) M0 146) H := h 146 (by decide)
theorem za_147 {D : va_G} {cA : Nat → ClassId} {sz a b : Nat} {f : Nat → va_E} {H : Heap} (h : bP (zw D cA sz a b) sz 154 (fA D cA sz a b f) H) : va_at D vwCl ((zw D cA sz a b).2.2 147, zc (zw D cA sz a b) M0 147) H := h 147 (by decide)
theorem za_148 {D : va_G} {cA : Nat → ClassId} {sz a b : Nat} {f : Nat → va_E} {H : Heap} (h : bP (zw D cA sz a b) sz 154 (fA D cA sz a b f) H) : va_at D vwCl ((zw D cA sz a b).2.2 148, zc (zw D cA sz a b) M0 148) H := h 148 (by decide)
theorem za_149 {D : va_G} {cA : Nat → ClassId} {sz a b : Nat} {f : Nat → va_E} {H : Heap} (h : bP (zw D cA sz a b) sz 154 (fA D cA sz a b f) H) : va_at D vwCl ((zw D cA sz a b).2.2 149, zc (zw D cA sz a b) M0 149) H := h 149 (by decide)
theorem za_150 {D : va_G} {cA : Nat → ClassId} {sz a b : Nat} {f : Nat → va_E} {H : Heap} (h : bP (zw D cA sz a b) sz 154 (fA D cA sz a b f) H) : va_at D vwCl ((zw D cA sz a b).2.2 150, zc (zw D cA sz a b) M0 150) H := h 150 (by decide)
theorem za_151 {D : va_G} {cA : Nat → ClassId} {sz a b : Nat} {f : Nat → va_E} {H : Heap} (h : bP (zw D cA sz a b) sz 154 (fA D cA sz a b f) H) : va_at D vwCl ((zw D cA sz a b).2.2 151, zc (zw D cA sz a b) M0 151) H := h 151 (by decide)
theorem za_152 {D : va_G} {cA : Nat → ClassId} {sz a b : Nat} {f : Nat → va_E} {H : Heap} (h : bP (zw D cA sz a b) sz 154 (fA D cA sz a b f) H) : va_at D vwCl ((zw D cA sz a b).2.2 152, zc (zw D cA sz a b) M0 152) H := h 152 (by decide)
theorem za_153 {D : va_G} {cA : Nat → ClassId} {sz a b : Nat} {f : Nat → va_E} {H : Heap} (h : bP (zw D cA sz a b) sz 154 (fA D cA sz a b f) H) : va_at D vwCl ((zw D cA sz a b).2.2 153, zc (zw D cA sz a b) M0 153) H := h 153 (by decide)
theorem zal_22 {D : va_G} {cA : Nat → ClassId} {sz a b : Nat} {f : Nat → va_E} {H : Heap} (h : bP (zw D cA sz a b) sz 154 (fA D cA sz a b f) H) : ∀ i, i < 22 → va_at D vwCl ((zw D cA sz a b).2.2 i, zc (zw D cA sz a b) M0 i) H := lt_s (i := 21) (lt_s (i := 20) (lt_s (i := 19) (lt_s (i := 18) (lt_s (i := 17) (lt_s (i := 16) (lt_s (i := 15) (lt_s (i := 14) (lt_s (i := 13) (lt_s (i := 12) (lt_s (i := 11) (lt_s (i := 10) (lt_s (i := 9) (lt_s (i := 8) (lt_s (i := 7) (lt_s (i := 6) (lt_s (i := 5) (lt_s (i := 4) (lt_s (i := 3) (lt_s (i := 2) (lt_s (i := 1) (lt_s (i := 0) (lt_0) (za_0 h)) (za_1 h)) (za_2 h)) (za_3 h)) (za_4 h)) (za_5 h)) (za_6 h)) (za_7 h)) (za_8 h)) (za_9 h)) (za_10 h)) (za_11 h)) (za_12 h)) (za_13 h)) (za_14 h)) (za_15 h)) (za_16 h)) (za_17 h)) (za_18 h)) (za_19 h)) (za_20 h)) (za_21 h)
theorem zal_44 {D : va_G} {cA : Nat → ClassId} {sz a b : Nat} {f : Nat → va_E} {H : Heap} (h : bP (zw D cA sz a b) sz 154 (fA D cA sz a b f) H) : ∀ i, i < 44 → va_at D vwCl ((zw D cA sz a b).2.2 i, zc (zw D cA sz a b) M0 i) H := lt_s (i := 43) (lt_s (i := 42) (lt_s (i := 41) (lt_s (i := 40) (lt_s (i := 39) (lt_s (i := 38) (lt_s (i := 37) (lt_s (i := 36) (lt_s (i := 35) (lt_s (i := 34) (lt_s (i := 33) (lt_s (i := 32) (lt_s (i := 31) (lt_s (i := 30) (lt_s (i := 29) (lt_s (i := 28) (lt_s (i := 27) (lt_s (i := 26) (lt_s (i := 25) (lt_s (i := 24) (lt_s (i := 23) (lt_s (i := 22) (zal_22 h) (za_22 h)) (za_23 h)) (za_24 h)) (za_25 h)) (za_26 h)) (za_27 h)) (za_28 h)) (za_29 h)) (za_30 h)) (za_31 h)) (za_32 h)) (za_33 h)) (za_34 h)) (za_35 h)) (za_36 h)) (za_37 h)) (za_38 h)) (za_39 h)) (za_40 h)) (za_41 h)) (za_42 h)) (za_43 h)
theorem zal_66 {D : va_G} {cA : Nat → ClassId} {sz a b : Nat} {f : Nat → va_E} {H : Heap} (h : bP (zw D cA sz a b) sz 154 (fA D cA sz a b f) H) : ∀ i, i < 66 → va_at D vwCl ((zw D cA sz a b).2.2 i, zc (zw D cA sz a b) M0 i) H := lt_s (i := 65) (lt_s (i := 64) (lt_s (i := 63) (lt_s (i := 62) (lt_s (i := 61) (lt_s (i := 60) (lt_s (i := 59) (lt_s (i := 58) (lt_s (i := 57) (lt_s (i := 56) (lt_s (i := 55) (lt_s (i := 54) (lt_s (i := 53) (lt_s (i := 52) (lt_s (i := 51) (lt_s (i := 50) (lt_s (i := 49) (lt_s (i := 48) (lt_s (i := 47) (lt_s (i := 46) (lt_s (i := 45) (lt_s (i := 44) (zal_44 h) (za_44 h)) (za_45 h)) (za_46 h)) (za_47 h)) (za_48 h)) (za_49 h)) (za_50 h)) (za_51 h)) (za_52 h)) (za_53 h)) (za_54 h)) (za_55 h)) (za_56 h)) (za_57 h)) (za_58 h)) (za_59 h)) (za_60 h)) (za_61 h)) (za_62 h)) (za_63 h)) (za_64 h)) (za_65 h)
theorem zal_88 {D : va_G} {cA : Nat → ClassId} {sz a b : Nat} {f : Nat → va_E} {H : Heap} (h : bP (zw D cA sz a b) sz 154 (fA D cA sz a b f) H) : ∀ i, i < 88 → va_at D vwCl ((zw D cA sz a b).2.2 i, zc (zw D cA sz a b) M0 i) H := lt_s (i := 87) (lt_s (i := 86) (lt_s (i := 85) (lt_s (i := 84) (lt_s (i := 83) (lt_s (i := 82) (lt_s (i := 81) (lt_s (i := 80) (lt_s (i := 79) (lt_s (i := 78) (lt_s (i := 77) (lt_s (i := 76) (lt_s (i := 75) (lt_s (i := 74) (lt_s (i := 73) (lt_s (i := 72) (lt_s (i := 71) (lt_s (i := 70) (lt_s (i := 69) (lt_s (i := 68) (lt_s (i := 67) (lt_s (i := 66) (zal_66 h) (za_66 h)) (za_67 h)) (za_68 h)) (za_69 h)) (za_70 h)) (za_71 h)) (za_72 h)) (za_73 h)) (za_74 h)) (za_75 h)) (za_76 h)) (za_77 h)) (za_78 h)) (za_79 h)) (za_80 h)) (za_81 h)) (za_82 h)) (za_83 h)) (za_84 h)) (za_85 h)) (za_86 h)) (za_87 h)
theorem zal_110 {D : va_G} {cA : Nat → ClassId} {sz a b : Nat} {f : Nat → va_E} {H : Heap} (h : bP (zw D cA sz a b) sz 154 (fA D cA sz a b f) H) : ∀ i, i < 110 → va_at D vwCl ((zw D cA sz a b).2.2 i, zc (zw D cA sz a b) M0 i) H := lt_s (i := 109) (lt_s (i := 108) (lt_s (i := 107) (lt_s (i := 106) (lt_s (i := 105) (lt_s (i := 104) (lt_s (i := 103) (lt_s (i := 102) (lt_s (i := 101) (lt_s (i := 100) (lt_s (i := 99) (lt_s (i := 98) (lt_s (i := 97) (lt_s (i := 96) (lt_s (i := 95) (lt_s (i := 94) (lt_s (i := 93) (lt_s (i := 92) (lt_s (i := 91) (lt_s (i := 90) (lt_s (i := 89) (lt_s (i := 88) (zal_88 h) (za_88 h)) (za_89 h)) (za_90 h)) (za_91 h)) (za_92 h)) (za_93 h)) (za_94 h)) (za_95 h)) (za_96 h)) (za_97 h)) (za_98 h)) (za_99 h)) (za_100 h)) (za_101 h)) (za_102 h)) (za_103 h)) (za_104 h)) (za_105 h)) (za_106 h)) (za_107 h)) (za_108 h)) (za_109 h)
theorem zal_132 {D : va_G} {cA : Nat → ClassId} {sz a b : Nat} {f : Nat → va_E} {H : Heap} (h : bP (zw D cA sz a b) sz 154 (fA D cA sz a b f) H) : ∀ i, i < 132 → va_at D vwCl ((zw D cA sz a b).2.2 i, zc (zw D cA sz a b) M0 i) H := lt_s (i := 131) (lt_s (i := 130) (lt_s (i := 129) (lt_s (i := 128) (lt_s (i := 127) (lt_s (i := 126) (lt_s (i := 125) (lt_s (i := 124) (lt_s (i := 123) (lt_s (i := 122) (lt_s (i := 121) (lt_s (i := 120) (lt_s (i := 119) (lt_s (i := 118) (lt_s (i := 117) (lt_s (i := 116) (lt_s (i := 115) (lt_s (i := 114) (lt_s (i := 113) (lt_s (i := 112) (lt_s (i := 111) (lt_s (i := 110) (zal_110 h) (za_110 h)) (za_111 h)) (za_112 h)) (za_113 h)) (za_114 h)) (za_115 h)) (za_116 h)) (za_117 h)) (za_118 h)) (za_119 h)) (za_120 h)) (za_121 h)) (za_122 h)) (za_123 h)) (za_124 h)) (za_125 h)) (za_126 h)) (za_127 h)) (za_128 h)) (za_129 h)) (za_130 h)) (za_131 h)
theorem zal_154 {D : va_G} {cA : Nat → ClassId} {sz a b : Nat} {f : Nat → va_E} {H : Heap} (h : bP (zw D cA sz a b) sz 154 (fA D cA sz a b f) H) : ∀ i, i < 154 → va_at D vwCl ((zw D cA sz a b).2.2 i, zc (zw D cA sz a b) M0 i) H := lt_s (i := 153) (lt_s (i := 152) (lt_s (i := 151) (lt_s (i := 150) (lt_s (i := 149) (lt_s (i := 148) (lt_s (i := 147) (lt_s (i := 146) (lt_s (i := 145) (lt_s (i := 144) (lt_s (i := 143) (lt_s (i := 142) (lt_s (i := 141) (lt_s (i := 140) (lt_s (i := 139) (lt_s (i := 138) (lt_s (i := 137) (lt_s (i := 136) (lt_s (i := 135) (lt_s (i := 134) (lt_s (i := 133) (lt_s (i := 132) (zal_132 h) (za_132 h)) (za_133 h)) (za_134 h)) (za_135 h)) (za_136 h)) (za_137 h)) (za_138 h)) (za_139 h)) (za_140 h)) (za_141 h)) (za_142 h)) (za_143 h)) (za_144 h)) (za_145 h)) (za_146 h)) (za_147 h)) (za_148 h)) (za_149 h)) (za_150 h)) (za_151 h)) (za_152 h)) (za_153 h)
end
section
/-! the reference's constructor: its cells are made; then, over the whole memory, its lanes, well, heed and start -/
abbrev d8L : List Value := [.int 0, .int 0, .null, .null, .null, .int 0, .int 0, .int 0, .int 0, .null, .int 0, .int 0, .int 0, .int 0, .int 0, .int 0, .null, .null, .int 0, .null, .int 0, .null, .null, .null, .null, .int 0, .null, .null, .null, .null]
def M1 : zM := zs (za (zs (zs (zs (zs (zs (zs M0 150 0 (-1)) 150 1 (-1)) 150 2 (-1)) 150 3 (-1)) 138 6 (-4)) 138 5 99) 141 (startT ((zs (zs (zs (zs (zs (zs M0 150 0 (-1)) 150 1 (-1)) 150 2 (-1)) 150 3 (-1)) 138 6 (-4)) 138 5 99).1 141))) 138 20 0
def q8 (D : va_G) (cA : Nat → ClassId) (sz a b : Nat) : Array Value → State → Outcome → State → Prop := va_Qv (S := zM) (fun M => M = M1) (fun M t => zP (zw D cA sz a b) M t.heap) (bA sz)
def p8 (D : va_G) (cA : Nat → ClassId) (sz a b : Nat) (f : Nat → va_E) : Array Value → State → Prop := va_Pc [.ref (sz + 138)] (fun U => U.heap.size = sz + 139 ∧ bP (zw D cA sz a b) sz 139 (va_up (tX7 (zw D cA sz a b) sz 0 f) 138 (.inr (8, d8L))) U.heap ∧ va_K D vwCl (zT (zw D cA sz a b)) U ∧ bX U ∧ zSt (zw D cA sz a b) (bA sz) U U.heap)
theorem t8_walk {w : zE} {g : zG} (F : zF w g RX8 cX8_init 2 2) (J : zJ w) (K : ∀ lv, ZW w g 2 159 lv [] M1) : ZW w g 2 123 [some (.ref (w.2.2 138)), none] [] M0 := by
  have hk : zk 138 = 8 := by decide
  obtain ⟨hz1, hz2, hz3, hz4, hz5, hz6, hz7, hz8, hz9, hz10, hz11, hz12, hz13, hz14, hz15⟩ := zn8 (show 138 = 138 from rfl)
  refine z_iconst (v := 0) F dX8_init_123 (by decide) ?_
  refine z_istore_n (lv' := [_, _]) F dX8_init_124 (by decide) rfl rfl ?_
  refine z_iload_n F dX8_init_125 rfl ?_
  refine z_iconst (v := 4) F dX8_init_126 (by decide) ?_
  refine z_ic_ge (tgt := 143) F dX8_init_127 (by decide) (fun h_127 => absurd h_127 (by decide)) (fun h_127 => ?_)
  refine z_aload_n F dX8_init_130 rfl ?_
  refine zg_X8_lanes F (by with_reducible assumption) fl_X8_43 dX8_init_131 (fun hk_131 => ?_)
  refine z_iload_n F dX8_init_134 rfl ?_
  refine z_iconst (v := (-1)) F dX8_init_135 (by decide) ?_
  refine z_iast10n (q := 0) F (by with_reducible assumption) (by decide) (by rw [hz12]; omega) dX8_init_136 ?_
  refine z_iincc (c := 1) (lv' := [_, _]) F dX8_init_137 rfl (by decide) (by decide) rfl rfl ?_
  refine z_goto (tgt := 125) F dX8_init_140 (by decide) ?_
  refine z_iload_n F dX8_init_125 rfl ?_
  refine z_iconst (v := 4) F dX8_init_126 (by decide) ?_
  refine z_ic_ge (tgt := 143) F dX8_init_127 (by decide) (fun h_127x => absurd h_127x (by decide)) (fun h_127x => ?_)
  refine z_aload_n F dX8_init_130 rfl ?_
  refine zg_X8_lanes F (by with_reducible assumption) fl_X8_43 dX8_init_131 (fun hk_131x => ?_)
  refine z_iload_n F dX8_init_134 rfl ?_
  refine z_iconst (v := (-1)) F dX8_init_135 (by decide) ?_
  refine z_iast10n (q := 1) F (by with_reducible assumption) (by decide) (by rw [hz12]; omega) dX8_init_136 ?_
  refine z_iincc (c := 1) (lv' := [_, _]) F dX8_init_137 rfl (by decide) (by decide) rfl rfl ?_
  refine z_goto (tgt := 125) F dX8_init_140 (by decide) ?_
  refine z_iload_n F dX8_init_125 rfl ?_
  refine z_iconst (v := 4) F dX8_init_126 (by decide) ?_
  refine z_ic_ge (tgt := 143) F dX8_init_127 (by decide) (fun h_127xx => absurd h_127xx (by decide)) (fun h_127xx => ?_)
  refine z_aload_n F dX8_init_130 rfl ?_
  refine zg_X8_lanes F (by with_reducible assumption) fl_X8_43 dX8_init_131 (fun hk_131xx => ?_)
  refine z_iload_n F dX8_init_134 rfl ?_
  refine z_iconst (v := (-1)) F dX8_init_135 (by decide) ?_
  refine z_iast10n (q := 2) F (by with_reducible assumption) (by decide) (by rw [hz12]; omega) dX8_init_136 ?_
  refine z_iincc (c := 1) (lv' := [_, _]) F dX8_init_137 rfl (by decide) (by decide) rfl rfl ?_
  refine z_goto (tgt := 125) F dX8_init_140 (by decide) ?_
  refine z_iload_n F dX8_init_125 rfl ?_
  refine z_iconst (v := 4) F dX8_init_126 (by decide) ?_
  refine z_ic_ge (tgt := 143) F dX8_init_127 (by decide) (fun h_127xxx => absurd h_127xxx (by decide)) (fun h_127xxx => ?_)
  refine z_aload_n F dX8_init_130 rfl ?_
  refine zg_X8_lanes F (by with_reducible assumption) fl_X8_43 dX8_init_131 (fun hk_131xxx => ?_)
  refine z_iload_n F dX8_init_134 rfl ?_
  refine z_iconst (v := (-1)) F dX8_init_135 (by decide) ?_
  refine z_iast10n (q := 3) F (by with_reducible assumption) (by decide) (by rw [hz12]; omega) dX8_init_136 ?_
  refine z_iincc (c := 1) (lv' := [_, _]) F dX8_init_137 rfl (by decide) (by decide) rfl rfl ?_
  refine z_goto (tgt := 125) F dX8_init_140 (by decide) ?_
  refine z_iload_n F dX8_init_125 rfl ?_
  refine z_iconst (v := 4) F dX8_init_126 (by decide) ?_
  refine z_ic_ge (tgt := 143) F dX8_init_127 (by decide) (fun h_127xxxx => ?_) (fun h_127xxxx => absurd h_127xxxx (by decide))
  refine z_aload_n F dX8_init_143 rfl ?_
  refine z_bipush (v := (-4)) F dX8_init_144 (by decide) ?_
  refine zp_X8_well F (by with_reducible assumption) fl_X8_56 dX8_init_146 ?_
  refine z_aload_n F dX8_init_149 rfl ?_
  refine z_bipush (v := 99) F dX8_init_150 (by decide) ?_
  refine zp_X8_heed F (by with_reducible assumption) fl_X8_60 dX8_init_152 ?_
  refine z_aload_n F dX8_init_155 rfl ?_
  refine z_callVv F (c_X8_starts J hk rfl) zm_X8_starts zv_X8_starts ml_X8_63 (by with_reducible assumption) (by decide) rfl rfl rfl (Nat.le_of_ble_eq_true rfl) dX8_init_156 (by omega) (fun M_156 h_156 => ?_)
  replace h_156 := Eq.symm h_156
  subst h_156
  exact K _
set_option maxHeartbeats 4000000 in
theorem c_X8_init {l : Launch} {D : va_G} {cA : Nat → ClassId} {sz a b : Nat} {f : Nat → va_E} : Met l yX8_init (.code yX8_init cX8_init 2 none :: zTb) (bR 2 15 671) (p8 D cA sz a b f) (q8 D cA sz a b) 15 671 (bA sz) := by
  refine Met.ofW (cc := cX8_init) (maxL := 2) (ret := none) zm_X8_init.1 rfl ?_
  intro p e s m ar below meth c s₁ B hml hv
  obtain ⟨rfl, hz, hP, hK, hX, hT⟩ := hv
  have hts := atoms_spec (ws := Cond.code yX8_init cX8_init 2 none :: zTb) B.pre
  have hl := lv_entry [Value.ref (sz + 138)] (n := 2) (Nat.le_of_ble_eq_true rfl)
  rw [lg_entry_eq]
  have hI : meth.name = "<init>" := (name_of_methodNamed B.named B.method).1
  have hw : ∀ q ∈ zTb, q.before [Value.ref (sz + 138)].toArray s = true := fun q hq => hts q (List.mem_cons_of_mem _ hq)
  have hown := findClass_of_methodNamed B.named
  suffices Z : ∀ g : zG, g = ((p, l, e, bR 2 15 671), (s, m, [Value.ref (sz + 138)].toArray, below), (meth, c, 15, 671), (bA sz, MQ below (q8 D cA sz a b) [Value.ref (sz + 138)].toArray s 15 671 (bA sz))) → BW (zw D cA sz a b) sz 139 g 2 0 [some (.ref (sz + 138)), none] [] (va_up (tX7 (zw D cA sz a b) sz 0 f) 138 (.inr (8, d8L))) 0 0 from Z _ rfl s.heap [] _ hl hP va_S.rf
  intro g hg
  have F : bF (zw D cA sz a b) sz 139 g RX8 cX8_init 2 2 := by
    subst hg
    exact ⟨B.exec, B.bytes, hml, hown, hw, B.notSynchronized, hK, hz, Nat.le_refl _, Nat.le_refl _, hX⟩
  have F2 : zF (zw D cA sz a b) g RX8 cX8_init 2 2 := by
    subst hg
    exact ⟨B.exec, B.bytes, hml, hown, hw, B.notSynchronized, hK, zw_J, fun i hi => zw_A hi, Nat.le_refl _, Nat.le_refl _, Nat.le_refl _, Nat.le_refl _, hT⟩
  have hR : g.1.2.2.2 = bR 2 15 671 := by subst hg; rfl
  have hI : g.2.2.1.1.name = "<init>" := by subst hg; exact hI
  refine b_aload F dX8_init_0 rfl ?_
  refine b_obj F bo_X8 bo_1 bo_2 dX8_init_1 (by decide) ?_
  refine b_aload F dX8_init_4 rfl ?_
  refine b_bipush (v := 40) F dX8_init_5 (by decide) ?_
  refine b_newa (N' := 40) (atype := .int) (ty := .int) (a0 := (40, .inl (fun _ => 0))) (t0 := 1) (j := 139) F ba_int rfl id (fun _ h => h) rfl (fun _ => rfl) (by decide) (by decide) (by decide) (by rw [hR]; show 0 + 1 ≤ 15; decide) (by rw [hR]; show 0 + 40 ≤ 671; decide) (by decide) dX8_init_7 ?_
  refine b_putF (i := 138) (j := 2) F hI (by decide) (((va_up_ne _ _ (show 138 ≠ 139 by decide)).trans (va_up_self _ _ _))) rfl izX8 tyX8_ok nmX8 (by decide) rfl rfl fl_X8_7 rfl rfl rfl (by decide) dX8_init_9 ?_
  refine b_aload F dX8_init_12 rfl ?_
  refine b_bipush (v := 16) F dX8_init_13 (by decide) ?_
  refine b_newa (N' := 16) (atype := .int) (ty := .int) (a0 := (16, .inl (fun _ => 0))) (t0 := 1) (j := 140) F ba_int rfl id (fun _ h => h) rfl (fun _ => rfl) (by decide) (by decide) (by decide) (by rw [hR]; show 1 + 1 ≤ 15; decide) (by rw [hR]; show 40 + 16 ≤ 671; decide) (by decide) dX8_init_15 ?_
  refine b_putF (i := 138) (j := 3) F hI (by decide) (((va_up_ne _ _ (show 138 ≠ 140 by decide)).trans (va_up_self _ _ _))) rfl izX8 tyX8_ok nmX8 (by decide) rfl rfl fl_X8_13 rfl rfl rfl (by simp only [List.length_set]; decide) dX8_init_17 ?_
  refine b_aload F dX8_init_20 rfl ?_
  refine b_bipush (v := 14) F dX8_init_21 (by decide) ?_
  refine b_newa (N' := 14) (atype := .int) (ty := .int) (a0 := (14, .inl (fun _ => 0))) (t0 := 1) (j := 141) F ba_int rfl id (fun _ h => h) rfl (fun _ => rfl) (by decide) (by decide) (by decide) (by rw [hR]; show 2 + 1 ≤ 15; decide) (by rw [hR]; show 56 + 14 ≤ 671; decide) (by decide) dX8_init_23 ?_
  refine b_putF (i := 138) (j := 4) F hI (by decide) (((va_up_ne _ _ (show 138 ≠ 141 by decide)).trans (va_up_self _ _ _))) rfl izX8 tyX8_ok nmX8 (by decide) rfl rfl fl_X8_16 rfl rfl rfl (by simp only [List.length_set]; decide) dX8_init_25 ?_
  refine b_aload F dX8_init_28 rfl ?_
  refine b_bipush (v := 120) F dX8_init_29 (by decide) ?_
  refine b_newa (N' := 120) (atype := .int) (ty := .int) (a0 := (120, .inl (fun _ => 0))) (t0 := 1) (j := 142) F ba_int rfl id (fun _ h => h) rfl (fun _ => rfl) (by decide) (by decide) (by decide) (by rw [hR]; show 3 + 1 ≤ 15; decide) (by rw [hR]; show 70 + 120 ≤ 671; decide) (by decide) dX8_init_31 ?_
  refine b_putF (i := 138) (j := 9) F hI (by decide) (((va_up_ne _ _ (show 138 ≠ 142 by decide)).trans (va_up_self _ _ _))) rfl izX8 tyX8_ok nmX8 (by decide) rfl rfl fl_X8_19 rfl rfl rfl (by simp only [List.length_set]; decide) dX8_init_33 ?_
  refine b_aload F dX8_init_36 rfl ?_
  refine b_bipush (v := 40) F dX8_init_37 (by decide) ?_
  refine b_newa (N' := 40) (atype := .int) (ty := .int) (a0 := (40, .inl (fun _ => 0))) (t0 := 1) (j := 143) F ba_int rfl id (fun _ h => h) rfl (fun _ => rfl) (by decide) (by decide) (by decide) (by rw [hR]; show 4 + 1 ≤ 15; decide) (by rw [hR]; show 190 + 40 ≤ 671; decide) (by decide) dX8_init_39 ?_
  refine b_putF (i := 138) (j := 16) F hI (by decide) (((va_up_ne _ _ (show 138 ≠ 143 by decide)).trans (va_up_self _ _ _))) rfl izX8 tyX8_ok nmX8 (by decide) rfl rfl fl_X8_22 rfl rfl rfl (by simp only [List.length_set]; decide) dX8_init_41 ?_
  refine b_aload F dX8_init_44 rfl ?_
  refine b_bipush (v := 24) F dX8_init_45 (by decide) ?_
  refine b_newa (N' := 24) (atype := .int) (ty := .int) (a0 := (24, .inl (fun _ => 0))) (t0 := 1) (j := 144) F ba_int rfl id (fun _ h => h) rfl (fun _ => rfl) (by decide) (by decide) (by decide) (by rw [hR]; show 5 + 1 ≤ 15; decide) (by rw [hR]; show 230 + 24 ≤ 671; decide) (by decide) dX8_init_47 ?_
  refine b_putF (i := 138) (j := 17) F hI (by decide) (((va_up_ne _ _ (show 138 ≠ 144 by decide)).trans (va_up_self _ _ _))) rfl izX8 tyX8_ok nmX8 (by decide) rfl rfl fl_X8_25 rfl rfl rfl (by simp only [List.length_set]; decide) dX8_init_49 ?_
  refine b_aload F dX8_init_52 rfl ?_
  refine b_bipush (v := 112) F dX8_init_53 (by decide) ?_
  refine b_newa (N' := 112) (atype := .int) (ty := .int) (a0 := (112, .inl (fun _ => 0))) (t0 := 1) (j := 145) F ba_int rfl id (fun _ h => h) rfl (fun _ => rfl) (by decide) (by decide) (by decide) (by rw [hR]; show 6 + 1 ≤ 15; decide) (by rw [hR]; show 254 + 112 ≤ 671; decide) (by decide) dX8_init_55 ?_
  refine b_putF (i := 138) (j := 19) F hI (by decide) (((va_up_ne _ _ (show 138 ≠ 145 by decide)).trans (va_up_self _ _ _))) rfl izX8 tyX8_ok nmX8 (by decide) rfl rfl fl_X8_28 rfl rfl rfl (by simp only [List.length_set]; decide) dX8_init_57 ?_
  refine b_aload F dX8_init_60 rfl ?_
  refine b_bipush (v := 14) F dX8_init_61 (by decide) ?_
  refine b_newa (N' := 14) (atype := .int) (ty := .int) (a0 := (14, .inl (fun _ => 0))) (t0 := 1) (j := 146) F ba_int rfl id (fun _ h => h) rfl (fun _ => rfl) (by decide) (by decide) (by decide) (by rw [hR]; show 7 + 1 ≤ 15; decide) (by rw [hR]; show 366 + 14 ≤ 671; decide) (by decide) dX8_init_63 ?_
  refine b_putF (i := 138) (j := 21) F hI (by decide) (((va_up_ne _ _ (show 138 ≠ 146 by decide)).trans (va_up_self _ _ _))) rfl izX8 tyX8_ok nmX8 (by decide) rfl rfl fl_X8_31 rfl rfl rfl (by simp only [List.length_set]; decide) dX8_init_65 ?_
  refine b_aload F dX8_init_68 rfl ?_
  refine b_bipush (v := 8) F dX8_init_69 (by decide) ?_
  refine b_newa (N' := 8) (atype := .int) (ty := .int) (a0 := (8, .inl (fun _ => 0))) (t0 := 1) (j := 147) F ba_int rfl id (fun _ h => h) rfl (fun _ => rfl) (by decide) (by decide) (by decide) (by rw [hR]; show 8 + 1 ≤ 15; decide) (by rw [hR]; show 380 + 8 ≤ 671; decide) (by decide) dX8_init_71 ?_
  refine b_putF (i := 138) (j := 22) F hI (by decide) (((va_up_ne _ _ (show 138 ≠ 147 by decide)).trans (va_up_self _ _ _))) rfl izX8 tyX8_ok nmX8 (by decide) rfl rfl fl_X8_34 rfl rfl rfl (by simp only [List.length_set]; decide) dX8_init_73 ?_
  refine b_aload F dX8_init_76 rfl ?_
  refine b_bipush (v := 8) F dX8_init_77 (by decide) ?_
  refine b_newa (N' := 8) (atype := .int) (ty := .int) (a0 := (8, .inl (fun _ => 0))) (t0 := 1) (j := 148) F ba_int rfl id (fun _ h => h) rfl (fun _ => rfl) (by decide) (by decide) (by decide) (by rw [hR]; show 9 + 1 ≤ 15; decide) (by rw [hR]; show 388 + 8 ≤ 671; decide) (by decide) dX8_init_79 ?_
  refine b_putF (i := 138) (j := 23) F hI (by decide) (((va_up_ne _ _ (show 138 ≠ 148 by decide)).trans (va_up_self _ _ _))) rfl izX8 tyX8_ok nmX8 (by decide) rfl rfl fl_X8_37 rfl rfl rfl (by simp only [List.length_set]; decide) dX8_init_81 ?_
  refine b_aload F dX8_init_84 rfl ?_
  refine b_sipush (v := 187) F dX8_init_85 (by decide) ?_
  refine b_newa (N' := 187) (atype := .int) (ty := .int) (a0 := (187, .inl (fun _ => 0))) (t0 := 1) (j := 149) F ba_int rfl id (fun _ h => h) rfl (fun _ => rfl) (by decide) (by decide) (by decide) (by rw [hR]; show 10 + 1 ≤ 15; decide) (by rw [hR]; show 396 + 187 ≤ 671; decide) (by decide) dX8_init_88 ?_
  refine b_putF (i := 138) (j := 24) F hI (by decide) (((va_up_ne _ _ (show 138 ≠ 149 by decide)).trans (va_up_self _ _ _))) rfl izX8 tyX8_ok nmX8 (by decide) rfl rfl fl_X8_40 rfl rfl rfl (by simp only [List.length_set]; decide) dX8_init_90 ?_
  refine b_aload F dX8_init_93 rfl ?_
  refine b_iconst (v := 4) F dX8_init_94 (by decide) ?_
  refine b_newa (N' := 4) (atype := .int) (ty := .int) (a0 := (4, .inl (fun _ => 0))) (t0 := 1) (j := 150) F ba_int rfl id (fun _ h => h) rfl (fun _ => rfl) (by decide) (by decide) (by decide) (by rw [hR]; show 11 + 1 ≤ 15; decide) (by rw [hR]; show 583 + 4 ≤ 671; decide) (by decide) dX8_init_95 ?_
  refine b_putF (i := 138) (j := 26) F hI (by decide) (((va_up_ne _ _ (show 138 ≠ 150 by decide)).trans (va_up_self _ _ _))) rfl izX8 tyX8_ok nmX8 (by decide) rfl rfl fl_X8_43 rfl rfl rfl (by simp only [List.length_set]; decide) dX8_init_97 ?_
  refine b_aload F dX8_init_100 rfl ?_
  refine b_iconst (v := 4) F dX8_init_101 (by decide) ?_
  refine b_newa (N' := 4) (atype := .int) (ty := .int) (a0 := (4, .inl (fun _ => 0))) (t0 := 1) (j := 151) F ba_int rfl id (fun _ h => h) rfl (fun _ => rfl) (by decide) (by decide) (by decide) (by rw [hR]; show 12 + 1 ≤ 15; decide) (by rw [hR]; show 587 + 4 ≤ 671; decide) (by decide) dX8_init_102 ?_
  refine b_putF (i := 138) (j := 27) F hI (by decide) (((va_up_ne _ _ (show 138 ≠ 151 by decide)).trans (va_up_self _ _ _))) rfl izX8 tyX8_ok nmX8 (by decide) rfl rfl fl_X8_46 rfl rfl rfl (by simp only [List.length_set]; decide) dX8_init_104 ?_
  refine b_aload F dX8_init_107 rfl ?_
  refine b_bipush (v := 64) F dX8_init_108 (by decide) ?_
  refine b_newa (N' := 64) (atype := .long) (ty := .long) (a0 := (64, .inr (.inl (fun _ => 0)))) (t0 := 2) (j := 152) F ba_long rfl id (fun _ h => h) rfl (fun _ => rfl) (by decide) (by decide) (by decide) (by rw [hR]; show 13 + 1 ≤ 15; decide) (by rw [hR]; show 591 + 64 ≤ 671; decide) (by decide) dX8_init_110 ?_
  refine b_putF (i := 138) (j := 28) F hI (by decide) (((va_up_ne _ _ (show 138 ≠ 152 by decide)).trans (va_up_self _ _ _))) rfl izX8 tyX8_ok nmX8 (by decide) rfl rfl fl_X8_49 rfl rfl rfl (by simp only [List.length_set]; decide) dX8_init_112 ?_
  refine b_aload F dX8_init_115 rfl ?_
  refine b_bipush (v := 16) F dX8_init_116 (by decide) ?_
  refine b_newa (N' := 16) (atype := .long) (ty := .long) (a0 := (16, .inr (.inl (fun _ => 0)))) (t0 := 2) (j := 153) F ba_long rfl id (fun _ h => h) rfl (fun _ => rfl) (by decide) (by decide) (by decide) (by rw [hR]; show 14 + 1 ≤ 15; decide) (by rw [hR]; show 655 + 16 ≤ 671; decide) (by decide) dX8_init_118 ?_
  refine b_putF (i := 138) (j := 29) F hI (by decide) (((va_up_ne _ _ (show 138 ≠ 153 by decide)).trans (va_up_self _ _ _))) rfl izX8 tyX8_ok nmX8 (by decide) rfl rfl fl_X8_53 rfl rfl rfl (by simp only [List.length_set]; decide) dX8_init_120 ?_
  intro H locs ls hl hP hS
  have hS2 : va_S g.2.2.2.1 g.2.1.1.heap H locs := by subst hg; exact hS
  have hc : g.2.2.1.2.2.1 = 15 ∧ g.2.2.1.2.2.2 = 671 := by subst hg; exact ⟨rfl, rfl⟩
  simp only [d8L, List.set_cons_succ, List.set_cons_zero] at hP
  have Q := t8_walk F2 zw_J (fun lv H locs ls hl hP hS => by
    subst hg
    exact W.vret B.exec B.bytes B.returns (fun t ht hW => ⟨⟨M1, rfl, rfl, by show zP _ M1 t.heap; rw [ht]; exact hP⟩, hS.F ht⟩) hS.2.2 dX8_init_159 B.notSynchronized) H locs ls hl (fun i hi => zal_154 hP i hi) hS2
  rw [hc.1, hc.2] at Q
  exact Q
end
section
/-! the reference's sheets and image in general, and the rest of its methods where nothing is told yet -/
theorem zy_zya (M : zM) (b : Nat) (f : Nat → Int64) (o : Nat) (v : Int64) : zy (zya M b f) b o v = zya M b (va_up f o v) := by
  unfold zy zya
  simp only [va_up_self, bx_uu]
theorem zya_self (M : zM) (b : Nat) : zya M b (M.2 b) = M := by
  unfold zya
  rw [va_up_id]
theorem zs_zaa (M : zM) (b : Nat) (f : zF1) (o : Nat) (v : Int32) : zs (za M b f) b o v = za M b (va_up f o v) := by rw [zs_za, za_at, za_za]
theorem s4_in {x : Int32} (h : ¬ (x < 0 ∨ 3 < x)) : ∃ j, j < 4 ∧ x = nI j := by
  obtain ⟨j, hj, rfl⟩ := nI_of2 (M := 3) (n := 3) (by decide) (fun q => h (Or.inl q)) (Int32.not_lt.mp fun q => h (Or.inr q))
  exact ⟨j, by omega, rfl⟩
def whyF (a b ln i n : Int32) : Int32 := if a < 0 then -11 else if ¬ a = ln then -12 else if i < 0 ∨ b.toInt64 < i.toInt64 + n.toInt64 then -13 else 0
theorem c_X8_why {l : Launch} {w : zE} (J : zJ w) {M : zM} {o j : Nat} {ln i n : Int32} (hk : zk o = 8) (ho : o = 138) (hj : j < 4) : zCi l w yX8_why cX8_why 5 (some .int) 0 [.ref (w.2.2 o), .int (nI j), .int ln, .int i, .int n] M (fun r M2 => M2 = M ∧ r = whyF (M.1 (o + 12) j) (M.1 (o + 13) j) ln i n) := by
  obtain ⟨hz1, hz2, hz3, hz4, hz5, hz6, hz7, hz8, hz9, hz10, hz11, hz12, hz13, hz14, hz15⟩ := zn8 ho
  refine zCi_of J zm_X8_why [some (.ref (w.2.2 o)), some (.int (nI j)), some (.int ln), some (.int i), some (.int n)] (Nat.le_of_ble_eq_true rfl) rfl (fun g hg F X => ?_)
  subst hg
  refine z_aload_n F dX8_why_0 rfl ?_
  refine zg_X8_lanes F (by with_reducible assumption) fl_X8_43 dX8_why_1 (fun hk_1 => ?_)
  refine z_iload_n F dX8_why_4 rfl ?_
  refine z_iald10n (q := j) F (by with_reducible assumption) (by first | with_reducible rfl | (simp only [n4, n2, n3, n5, n14, n16, na1, na2, na3, nI_add, nI_1, nI_pred]; done) | (simp only [n4, n2, n3, n5, n14, n16, na1, na2, na3, nI_add, nI_1, nI_pred, Nat.add_assoc, Nat.add_comm, Nat.add_left_comm]; done)) (by rw [hz12]; omega) dX8_why_5 ?_
  try simp only [lg_cmp_le, lg_cmp_gt]
  refine z_if_ge (tgt := 12) F dX8_why_6 (by decide) (fun h_6 => ?_) (fun h_6 => ?_)
  · try simp only [lg_cmp_le, lg_cmp_gt] at h_6
    refine z_aload_n F dX8_why_12 rfl ?_
    refine zg_X8_lanes F (by with_reducible assumption) fl_X8_43 dX8_why_13 (fun hk_13 => ?_)
    refine z_iload_n F dX8_why_16 rfl ?_
    refine z_iald10n (q := j) F (by with_reducible assumption) (by first | with_reducible rfl | (simp only [n4, n2, n3, n5, n14, n16, na1, na2, na3, nI_add, nI_1, nI_pred]; done) | (simp only [n4, n2, n3, n5, n14, n16, na1, na2, na3, nI_add, nI_1, nI_pred, Nat.add_assoc, Nat.add_comm, Nat.add_left_comm]; done)) (by rw [hz12]; omega) dX8_why_17 ?_
    try simp only [lg_cmp_le, lg_cmp_gt]
    refine z_iload_n F dX8_why_18 rfl ?_
    refine z_ic_eq (tgt := 25) F dX8_why_19 (by decide) (fun h_19 => ?_) (fun h_19 => ?_)
    · try simp only [lg_cmp_le, lg_cmp_gt] at h_19
      refine z_iload_n F dX8_why_25 rfl ?_
      refine z_if_lt (tgt := 46) F dX8_why_26 (by decide) (fun h_26 => ?_) (fun h_26 => ?_)
      · try simp only [lg_cmp_le, lg_cmp_gt] at h_26
        refine z_bipush (v := (-13)) F dX8_why_46 (by decide) ?_
        refine z_goto (tgt := 52) F dX8_why_48 (by decide) ?_
        refine z_iret F X dX8_why_52 ?_
        refine ⟨rfl, ?_⟩
        unfold whyF
        rw [if_neg (nlt h_6), if_neg (fun q => q h_19), if_pos (Or.inl h_26)]
      · try simp only [lg_cmp_le, lg_cmp_gt] at h_26
        refine z_iload_n F dX8_why_29 rfl ?_
        refine z_i2l F dX8_why_30 ?_
        refine z_iload F dX8_why_31 rfl ?_
        refine z_i2l F dX8_why_33 ?_
        refine z_ladd F dX8_why_34 ?_
        refine z_aload_n F dX8_why_35 rfl ?_
        refine zg_X8_sizes F (by with_reducible assumption) fl_X8_46 dX8_why_36 (fun hk_36 => ?_)
        refine z_iload_n F dX8_why_39 rfl ?_
        refine z_iald10n (q := j) F (by with_reducible assumption) (by first | with_reducible rfl | (simp only [n4, n2, n3, n5, n14, n16, na1, na2, na3, nI_add, nI_1, nI_pred]; done) | (simp only [n4, n2, n3, n5, n14, n16, na1, na2, na3, nI_add, nI_1, nI_pred, Nat.add_assoc, Nat.add_comm, Nat.add_left_comm]; done)) (by rw [hz13]; omega) dX8_why_40 ?_
        try simp only [lg_cmp_le, lg_cmp_gt]
        refine z_i2l F dX8_why_41 ?_
        refine z_lcmp F dX8_why_42 ?_
        refine z_if_le (tgt := 51) F dX8_why_43 (by decide) (fun h_43 => ?_) (fun h_43 => ?_)
        · try simp only [lg_cmp_le, lg_cmp_gt] at h_43
          refine z_iconst (v := 0) F dX8_why_51 (by decide) ?_
          refine z_iret F X dX8_why_52 ?_
          refine ⟨rfl, ?_⟩
          unfold whyF
          rw [if_neg (nlt h_6), if_neg (fun q => q h_19), if_neg (fun q => q.elim (nlt h_26) (Int64.not_lt.mpr h_43))]
        · try simp only [lg_cmp_le, lg_cmp_gt] at h_43
          refine z_bipush (v := (-13)) F dX8_why_46 (by decide) ?_
          refine z_goto (tgt := 52) F dX8_why_48 (by decide) ?_
          refine z_iret F X dX8_why_52 ?_
          refine ⟨rfl, ?_⟩
          unfold whyF
          rw [if_neg (nlt h_6), if_neg (fun q => q h_19), if_pos (Or.inr h_43)]
    · try simp only [lg_cmp_le, lg_cmp_gt] at h_19
      refine z_bipush (v := (-12)) F dX8_why_22 (by decide) ?_
      refine z_iret F X dX8_why_24 ?_
      refine ⟨rfl, ?_⟩
      unfold whyF
      rw [if_neg (nlt h_6), if_pos h_19]
  · try simp only [lg_cmp_le, lg_cmp_gt] at h_6
    refine z_bipush (v := (-11)) F dX8_why_9 (by decide) ?_
    refine z_iret F X dX8_why_11 ?_
    refine ⟨rfl, ?_⟩
    unfold whyF
    rw [if_pos h_6]
theorem c_X8_drop {l : Launch} {w : zE} (J : zJ w) {M : zM} {o : Nat} {x : Int32} (hk : zk o = 8) (ho : o = 138) : zCi l w yX8_drop cX8_drop 2 (some .int) 2 [.ref (w.2.2 o), .int x] M (fun r M2 => ((x < 0 ∨ 3 < x) ∧ r = -1 ∧ M2 = M) ∨ ∃ j, j < 4 ∧ x = nI j ∧ ((M.1 (o + 12) j < 0 ∧ r = -11 ∧ M2 = M) ∨ (¬ M.1 (o + 12) j < 0 ∧ r = M.1 (o + 13) j ∧ M2 = zs M (o + 12) j (-1)))) := by
  obtain ⟨hz1, hz2, hz3, hz4, hz5, hz6, hz7, hz8, hz9, hz10, hz11, hz12, hz13, hz14, hz15⟩ := zn8 ho
  refine zCi_of J zm_X8_drop [some (.ref (w.2.2 o)), some (.int x)] (Nat.le_of_ble_eq_true rfl) rfl (fun g hg F X => ?_)
  subst hg
  refine z_iload_n F dX8_drop_0 rfl ?_
  refine z_callSi F (c_X8_isSheet J) zm_X8_isSheet zst_X8_isSheet ml_X8_227 rfl rfl (Nat.le_of_ble_eq_true rfl) dX8_drop_1 (by omega) (fun r_1 M_1 h_1 => ?_)
  obtain ⟨e_1, rfl⟩ := h_1
  replace e_1 := Eq.symm e_1
  subst e_1
  refine z_if_ne (tgt := 9) F dX8_drop_4 (by decide) (fun h_4 => ?_) (fun h_4 => ?_)
  · replace h_4 := bI_1.mp h_4
    obtain ⟨j, hj, rfl⟩ := s4_in h_4
    refine z_aload_n F dX8_drop_9 rfl ?_
    refine zg_X8_lanes F (by with_reducible assumption) fl_X8_43 dX8_drop_10 (fun hk_10 => ?_)
    refine z_iload_n F dX8_drop_13 rfl ?_
    refine z_iald10n (q := j) F (by with_reducible assumption) (by first | with_reducible rfl | (simp only [n4, n2, n3, n5, n14, n16, na1, na2, na3, nI_add, nI_1, nI_pred]; done) | (simp only [n4, n2, n3, n5, n14, n16, na1, na2, na3, nI_add, nI_1, nI_pred, Nat.add_assoc, Nat.add_comm, Nat.add_left_comm]; done)) (by rw [hz12]; omega) dX8_drop_14 ?_
    refine z_if_ge (tgt := 21) F dX8_drop_15 (by decide) (fun h_15 => ?_) (fun h_15 => ?_)
    · refine z_aload_n F dX8_drop_21 rfl ?_
      refine zg_X8_lanes F (by with_reducible assumption) fl_X8_43 dX8_drop_22 (fun hk_22 => ?_)
      refine z_iload_n F dX8_drop_25 rfl ?_
      refine z_iconst (v := (-1)) F dX8_drop_26 (by decide) ?_
      refine z_iast10n (q := j) F (by with_reducible assumption) (by first | with_reducible rfl | (simp only [n4, n2, n3, n5, n14, n16, na1, na2, na3, nI_add, nI_1, nI_pred]; done) | (simp only [n4, n2, n3, n5, n14, n16, na1, na2, na3, nI_add, nI_1, nI_pred, Nat.add_assoc, Nat.add_comm, Nat.add_left_comm]; done)) (by rw [hz12]; omega) dX8_drop_27 ?_
      refine z_aload_n F dX8_drop_28 rfl ?_
      refine zg_X8_sizes F (by with_reducible assumption) fl_X8_46 dX8_drop_29 (fun hk_29 => ?_)
      refine z_iload_n F dX8_drop_32 rfl ?_
      refine z_iald10n (q := j) F (by with_reducible assumption) (by first | with_reducible rfl | (simp only [n4, n2, n3, n5, n14, n16, na1, na2, na3, nI_add, nI_1, nI_pred]; done) | (simp only [n4, n2, n3, n5, n14, n16, na1, na2, na3, nI_add, nI_1, nI_pred, Nat.add_assoc, Nat.add_comm, Nat.add_left_comm]; done)) (by rw [hz13]; omega) dX8_drop_33 ?_
      refine z_iret F X dX8_drop_34 ?_
      exact Or.inr ⟨j, hj, rfl, Or.inr ⟨nlt h_15, by rw [zs_off _ (by omega)], rfl⟩⟩
    · refine z_bipush (v := (-11)) F dX8_drop_18 (by decide) ?_
      refine z_iret F X dX8_drop_20 ?_
      exact Or.inr ⟨j, hj, rfl, Or.inl ⟨h_15, rfl, rfl⟩⟩
  · replace h_4 := bI_0.mp h_4
    refine z_iconst (v := (-1)) F dX8_drop_7 (by decide) ?_
    refine z_iret F X dX8_drop_8 ?_
    exact Or.inl ⟨Classical.not_not.mp h_4, rfl, rfl⟩
def zeL (f : Nat → Int64) (b : Nat) : Nat → Nat → Int64
  | 0 => f
  | k + 1 => va_up (zeL f b k) (b + k) 0
theorem c_X8_sheet {l : Launch} {w : zE} (J : zJ w) {M : zM} {o : Nat} {x ln n : Int32} (hk : zk o = 8) (ho : o = 138) : zCi l w yX8_sheet cX8_sheet 5 (some .int) 2 [.ref (w.2.2 o), .int x, .int ln, .int n] M (fun r M2 => (((x < 0 ∨ 3 < x) ∨ (ln < 0 ∨ 3 < ln) ∨ 16 < n) ∧ r = -1 ∧ M2 = M) ∨ (¬ ((x < 0 ∨ 3 < x) ∨ (ln < 0 ∨ 3 < ln) ∨ 16 < n) ∧ ((n < 0 ∧ r = -14 ∧ M2 = M) ∨ ∃ j, j < 4 ∧ x = nI j ∧ ¬ n < 0 ∧ r = n ∧ M2 = zya (zs (zs M (o + 12) j ln) (o + 13) j n) (o + 14) (zeL (M.2 (o + 14)) (16 * j) 16)))) := by
  obtain ⟨hz1, hz2, hz3, hz4, hz5, hz6, hz7, hz8, hz9, hz10, hz11, hz12, hz13, hz14, hz15⟩ := zn8 ho
  refine zCi_of J zm_X8_sheet [some (.ref (w.2.2 o)), some (.int x), some (.int ln), some (.int n), none] (Nat.le_of_ble_eq_true rfl) rfl (fun g hg F X => ?_)
  subst hg
  have key : ∀ (j : Nat), j < 4 → x = nI j → ¬ ((x < 0 ∨ 3 < x) ∨ (ln < 0 ∨ 3 < ln) ∨ 16 < n) → ¬ n < 0 → ∀ (r k : Nat), k + r = 16 → ZW w g 5 46 [some (.ref (w.2.2 o)), some (.int (nI j)), some (.int ln), some (.int n), some (.int (nI k))] [] (zya (zs (zs M (o + 12) j ln) (o + 13) j n) (o + 14) (zeL (M.2 (o + 14)) (16 * j) k)) := by
    intro j hj hx hb hn r
    induction r with
    | zero =>
      intro k hkr
      obtain rfl : k = 16 := by omega
      refine z_iload F dX8_sheet_46 rfl ?_
      refine z_bipush (v := 16) F dX8_sheet_48 (by decide) ?_
      refine z_ic_ge (tgt := 72) F dX8_sheet_50 (by decide) (fun h_50 => ?_) (fun h_50 => absurd h_50 (by decide))
      refine z_iload_n F dX8_sheet_72 rfl ?_
      refine z_iret F X dX8_sheet_73 ?_
      exact Or.inr ⟨hb, Or.inr ⟨j, hj, hx, hn, rfl, rfl⟩⟩
    | succ r ih =>
      intro k hkr
      refine z_iload F dX8_sheet_46 rfl ?_
      refine z_bipush (v := 16) F dX8_sheet_48 (by decide) ?_
      refine z_ic_ge (tgt := 72) F dX8_sheet_50 (by decide) (fun h_50 => absurd h_50 (nI_ge (b := 16) (by omega) (by decide))) (fun h_50 => ?_)
      refine z_aload_n F dX8_sheet_53 rfl ?_
      refine zg_X8_items F (by with_reducible assumption) fl_X8_49 dX8_sheet_54 (fun hk_54 => ?_)
      refine z_bipush (v := 16) F dX8_sheet_57 (by decide) ?_
      refine z_iload_n F dX8_sheet_59 rfl ?_
      refine z_imul F dX8_sheet_60 ?_
      refine z_iload F dX8_sheet_61 rfl ?_
      refine z_iadd F dX8_sheet_63 ?_
      refine z_lconst (v := 0) F dX8_sheet_64 (by decide) ?_
      refine z_last14n (q := ((16 * j) + k)) F (by with_reducible assumption) (by first | with_reducible rfl | (simp only [n4, n2, n3, n5, n14, n16, na1, na2, na3, nI_add, nI_1, nI_pred]; done) | (simp only [n4, n2, n3, n5, n14, n16, na1, na2, na3, nI_add, nI_1, nI_pred, Nat.add_assoc, Nat.add_comm, Nat.add_left_comm]; done)) (by rw [hz14]; omega) dX8_sheet_65 ?_
      refine z_iincc (c := 1) (lv' := [_, _, _, _, _]) F dX8_sheet_66 rfl (by decide) (by decide) rfl rfl ?_
      refine z_goto (tgt := 46) F dX8_sheet_69 (by decide) ?_
      rw [nI_1]
      rw [zy_zya]
      exact ih (k + 1) (by omega)
  refine z_iload_n F dX8_sheet_0 rfl ?_
  refine z_callSi F (c_X8_isSheet J) zm_X8_isSheet zst_X8_isSheet ml_X8_227 rfl rfl (Nat.le_of_ble_eq_true rfl) dX8_sheet_1 (by omega) (fun r_1 M_1 h_1 => ?_)
  obtain ⟨e_1, rfl⟩ := h_1
  replace e_1 := Eq.symm e_1
  subst e_1
  refine z_if_eq (tgt := 20) F dX8_sheet_4 (by decide) (fun h_4 => ?_) (fun h_4 => ?_)
  · replace h_4 := bI_0.mp h_4
    refine z_iconst (v := (-1)) F dX8_sheet_20 (by decide) ?_
    refine z_iret F X dX8_sheet_21 ?_
    exact Or.inl ⟨Or.inl (Classical.not_not.mp h_4), rfl, rfl⟩
  · replace h_4 := bI_1.mp h_4
    refine z_iload_n F dX8_sheet_7 rfl ?_
    refine z_callSi F (c_X8_isLane J) zm_X8_isLane zst_X8_isLane ml_X8_230 rfl rfl (Nat.le_of_ble_eq_true rfl) dX8_sheet_8 (by omega) (fun r_8 M_8 h_8 => ?_)
    obtain ⟨e_8, rfl⟩ := h_8
    replace e_8 := Eq.symm e_8
    subst e_8
    refine z_if_eq (tgt := 20) F dX8_sheet_11 (by decide) (fun h_11 => ?_) (fun h_11 => ?_)
    · replace h_11 := bI_0.mp h_11
      refine z_iconst (v := (-1)) F dX8_sheet_20 (by decide) ?_
      refine z_iret F X dX8_sheet_21 ?_
      exact Or.inl ⟨Or.inr (Or.inl (Classical.not_not.mp h_11)), rfl, rfl⟩
    · replace h_11 := bI_1.mp h_11
      refine z_iload_n F dX8_sheet_14 rfl ?_
      refine z_bipush (v := 16) F dX8_sheet_15 (by decide) ?_
      refine z_ic_le (tgt := 22) F dX8_sheet_17 (by decide) (fun h_17 => ?_) (fun h_17 => ?_)
      · refine z_iload_n F dX8_sheet_22 rfl ?_
        refine z_if_ge (tgt := 29) F dX8_sheet_23 (by decide) (fun h_23 => ?_) (fun h_23 => ?_)
        · obtain ⟨j, hj, rfl⟩ := s4_in h_4
          refine z_aload_n F dX8_sheet_29 rfl ?_
          refine zg_X8_lanes F (by with_reducible assumption) fl_X8_43 dX8_sheet_30 (fun hk_30 => ?_)
          refine z_iload_n F dX8_sheet_33 rfl ?_
          refine z_iload_n F dX8_sheet_34 rfl ?_
          refine z_iast10n (q := j) F (by with_reducible assumption) (by first | with_reducible rfl | (simp only [n4, n2, n3, n5, n14, n16, na1, na2, na3, nI_add, nI_1, nI_pred]; done) | (simp only [n4, n2, n3, n5, n14, n16, na1, na2, na3, nI_add, nI_1, nI_pred, Nat.add_assoc, Nat.add_comm, Nat.add_left_comm]; done)) (by rw [hz12]; omega) dX8_sheet_35 ?_
          refine z_aload_n F dX8_sheet_36 rfl ?_
          refine zg_X8_sizes F (by with_reducible assumption) fl_X8_46 dX8_sheet_37 (fun hk_37 => ?_)
          refine z_iload_n F dX8_sheet_40 rfl ?_
          refine z_iload_n F dX8_sheet_41 rfl ?_
          refine z_iast10n (q := j) F (by with_reducible assumption) (by first | with_reducible rfl | (simp only [n4, n2, n3, n5, n14, n16, na1, na2, na3, nI_add, nI_1, nI_pred]; done) | (simp only [n4, n2, n3, n5, n14, n16, na1, na2, na3, nI_add, nI_1, nI_pred, Nat.add_assoc, Nat.add_comm, Nat.add_left_comm]; done)) (by rw [hz13]; omega) dX8_sheet_42 ?_
          refine z_iconst (v := 0) F dX8_sheet_43 (by decide) ?_
          refine z_istore (lv' := [_, _, _, _, _]) F dX8_sheet_44 (by decide) rfl rfl ?_
          have K := key j hj rfl (fun q => q.elim h_4 (fun q => q.elim h_11 (nlt h_17))) (nlt h_23) 16 0 rfl
          rw [show zeL (M.2 (o + 14)) (16 * j) 0 = (zs (zs M (o + 12) j ln) (o + 13) j n).2 (o + 14) from rfl, zya_self] at K
          exact K
        · refine z_bipush (v := (-14)) F dX8_sheet_26 (by decide) ?_
          refine z_iret F X dX8_sheet_28 ?_
          exact Or.inr ⟨fun q => q.elim h_4 (fun q => q.elim h_11 (nlt h_17)), Or.inl ⟨h_23, rfl, rfl⟩⟩
      · refine z_iconst (v := (-1)) F dX8_sheet_20 (by decide) ?_
        refine z_iret F X dX8_sheet_21 ?_
        exact Or.inl ⟨Or.inr (Or.inr h_17), rfl, rfl⟩
theorem c_X8_restore0 {l : Launch} {w : zE} (J : zJ w) {M : zM} {o : Nat} (hk : zk o = 8) (h : M.1 o 25 = 0) : zCi l w yX8_restore cX8_restore 2 (some .int) 1 [.ref (w.2.2 o)] M (fun r M2 => r = -4 ∧ M2 = M) := by
  refine zCi_of J zm_X8_restore [some (.ref (w.2.2 o)), none] (Nat.le_of_ble_eq_true rfl) rfl (fun g hg F X => ?_)
  subst hg
  refine z_aload_n F dX8_restore_0 rfl ?_
  refine zg_X8_isImage F (by with_reducible assumption) fl_X8_220 dX8_restore_1 ?_
  refine z_if_ne (tgt := 10) F dX8_restore_4 (by decide) (fun h_4 => absurd h_4 (fun q => q h)) (fun h_4 => ?_)
  refine z_bipush (v := (-4)) F dX8_restore_7 (by decide) ?_
  refine z_iret F X dX8_restore_9 ?_
  exact ⟨rfl, rfl⟩
theorem n0_not {M : zM} {o : Nat} {x : Int32} (h : M.1 o 0 = nI 0) (q : 0 ≤ x ∧ x < M.1 o 0) : False := by
  rw [h, nI_0] at q
  grind
theorem c_X8_sister0 {l : Launch} {w : zE} (J : zJ w) {M : zM} {o : Nat} {x k : Int32} (hk : zk o = 8) (h : M.1 o 0 = nI 0) : zCi l w yX8_sister cX8_sister 4 (some .int) 2 [.ref (w.2.2 o), .int x, .int k] M (fun r M2 => r = -1 ∧ M2 = M) := by
  refine zCi_of J zm_X8_sister [some (.ref (w.2.2 o)), some (.int x), some (.int k), none] (Nat.le_of_ble_eq_true rfl) rfl (fun g hg F X => ?_)
  subst hg
  refine z_aload_n F dX8_sister_0 rfl ?_
  refine z_iload_n F dX8_sister_1 rfl ?_
  refine z_i2l F dX8_sister_2 ?_
  refine z_callVi F (d_X8_isThing J hk h (by decide)) zm_X8_isThing zv_X8_isThing ml_X8_89 (by with_reducible assumption) (by decide) rfl rfl rfl (Nat.le_of_ble_eq_true rfl) dX8_sister_3 (by omega) (fun r_3 M_3 h_3 => ?_)
  obtain ⟨e_3, rfl⟩ := h_3
  replace e_3 := Eq.symm e_3
  subst e_3
  refine z_if_eq (tgt := 19) F dX8_sister_6 (by decide) (fun h_6 => ?_) (fun h_6 => absurd h_6 (fun q => n0_not h (bI_1.mp q)))
  refine z_iconst (v := (-1)) F dX8_sister_19 (by decide) ?_
  refine z_iret F X dX8_sister_20 ?_
  exact ⟨rfl, rfl⟩
theorem c_X8_meet0 {l : Launch} {w : zE} (J : zJ w) {M : zM} {o : Nat} {x k : Int32} (hk : zk o = 8) (h : M.1 o 0 = nI 0) : zCi l w yX8_meet cX8_meet 6 (some .int) 2 [.ref (w.2.2 o), .int x, .int k] M (fun r M2 => r = -1 ∧ M2 = M) := by
  refine zCi_of J zm_X8_meet [some (.ref (w.2.2 o)), some (.int x), some (.int k), none, none, none] (Nat.le_of_ble_eq_true rfl) rfl (fun g hg F X => ?_)
  subst hg
  refine z_aload_n F dX8_meet_0 rfl ?_
  refine z_iload_n F dX8_meet_1 rfl ?_
  refine z_i2l F dX8_meet_2 ?_
  refine z_callVi F (d_X8_isThing J hk h (by decide)) zm_X8_isThing zv_X8_isThing ml_X8_89 (by with_reducible assumption) (by decide) rfl rfl rfl (Nat.le_of_ble_eq_true rfl) dX8_meet_3 (by omega) (fun r_3 M_3 h_3 => ?_)
  obtain ⟨e_3, rfl⟩ := h_3
  replace e_3 := Eq.symm e_3
  subst e_3
  refine z_if_eq (tgt := 21) F dX8_meet_6 (by decide) (fun h_6 => ?_) (fun h_6 => absurd h_6 (fun q => n0_not h (bI_1.mp q)))
  refine z_iconst (v := (-1)) F dX8_meet_21 (by decide) ?_
  refine z_iret F X dX8_meet_22 ?_
  exact ⟨rfl, rfl⟩
theorem c_X8_chance0 {l : Launch} {w : zE} (J : zJ w) {M : zM} {o : Nat} {x k : Int32} (hk : zk o = 8) (ho : o = 138) (h : M.1 o 0 = nI 0) (h3 : M.1 (o + 3) 3 = 0) : zCi l w yX8_chance cX8_chance 6 (some .int) 2 [.ref (w.2.2 o), .int x, .int k] M (fun r M2 => M2 = M ∧ ((¬ x = -4 ∨ (k < 0 ∨ 1 < k)) ∧ r = -1 ∨ ¬ (¬ x = -4 ∨ (k < 0 ∨ 1 < k)) ∧ r = -3)) := by
  obtain ⟨hz1, hz2, hz3, hz4, hz5, hz6, hz7, hz8, hz9, hz10, hz11, hz12, hz13, hz14, hz15⟩ := zn8 ho
  refine zCi_of J zm_X8_chance [some (.ref (w.2.2 o)), some (.int x), some (.int k), none, none, none] (Nat.le_of_ble_eq_true rfl) rfl (fun g hg F X => ?_)
  subst hg
  refine z_iload_n F dX8_chance_0 rfl ?_
  refine z_bipush (v := (-4)) F dX8_chance_1 (by decide) ?_
  refine z_ic_eq (tgt := 15) F dX8_chance_3 (by decide) (fun h_3 => ?_) (fun h_3 => ?_)
  · try simp only [h3] at h_3
    refine z_iload_n F dX8_chance_15 rfl ?_
    refine z_i2l F dX8_chance_16 ?_
    refine z_lconst (v := 0) F dX8_chance_17 (by decide) ?_
    refine z_lconst (v := 1) F dX8_chance_18 (by decide) ?_
    refine z_callSi F (d_X8_in J (a := 0) (b := 1) (by decide) (by decide)) zm_X8_in zst_X8_in ml_X8_72 rfl rfl (Nat.le_of_ble_eq_true rfl) dX8_chance_19 (by omega) (fun r_19 M_19 h_19 => ?_)
    obtain ⟨e_19, rfl⟩ := h_19
    replace e_19 := Eq.symm e_19
    subst e_19
    refine z_if_ne (tgt := 27) F dX8_chance_22 (by decide) (fun h_22 => ?_) (fun h_22 => ?_)
    · replace h_22 := bI_1.mp h_22
      try simp only [h3] at h_22
      refine z_bipush (v := 12) F dX8_chance_27 (by decide) ?_
      refine z_aload_n F dX8_chance_29 rfl ?_
      refine zg_X8_now F (by with_reducible assumption) fl_X8_16 dX8_chance_30 (fun hk_30 => ?_)
      refine z_iconst (v := 3) F dX8_chance_33 (by decide) ?_
      refine z_iald10n (q := 3) F (by with_reducible assumption) (by decide) (by rw [hz3]; omega) dX8_chance_34 ?_
      try simp only [h3]
      refine z_isub F dX8_chance_35 ?_
      refine z_istore_n (lv' := [_, _, _, _, _, _]) F dX8_chance_36 (by decide) rfl rfl ?_
      refine z_iload_n F dX8_chance_37 rfl ?_
      refine z_bipush (v := 10) F dX8_chance_38 (by decide) ?_
      refine z_ic_le (tgt := 46) F dX8_chance_40 (by decide) (fun h_40 => absurd h_40 (by decide)) (fun h_40 => ?_)
      refine z_bipush (v := (-3)) F dX8_chance_43 (by decide) ?_
      refine z_iret F X dX8_chance_45 ?_
      refine ⟨rfl, Or.inr ⟨fun q => q.elim (fun q => q h_3) (fun q => ?_), rfl⟩⟩
      grind
    · replace h_22 := bI_0.mp h_22
      try simp only [h3] at h_22
      refine z_iconst (v := (-1)) F dX8_chance_25 (by decide) ?_
      refine z_iret F X dX8_chance_26 ?_
      refine ⟨rfl, Or.inl ⟨Or.inr ?_, rfl⟩⟩
      grind
  · try simp only [h3] at h_3
    refine z_aload_n F dX8_chance_6 rfl ?_
    refine z_iload_n F dX8_chance_7 rfl ?_
    refine z_i2l F dX8_chance_8 ?_
    refine z_callVi F (d_X8_isThing J hk h (by decide)) zm_X8_isThing zv_X8_isThing ml_X8_89 (by with_reducible assumption) (by decide) rfl rfl rfl (Nat.le_of_ble_eq_true rfl) dX8_chance_9 (by omega) (fun r_9 M_9 h_9 => ?_)
    obtain ⟨e_9, rfl⟩ := h_9
    replace e_9 := Eq.symm e_9
    subst e_9
    refine z_if_eq (tgt := 25) F dX8_chance_12 (by decide) (fun h_12 => ?_) (fun h_12 => absurd h_12 (fun q => n0_not h (bI_1.mp q)))
    refine z_iconst (v := (-1)) F dX8_chance_25 (by decide) ?_
    refine z_iret F X dX8_chance_26 ?_
    exact ⟨rfl, Or.inl ⟨Or.inl h_3, rfl⟩⟩
theorem c_X8_item0 {l : Launch} {w : zE} (J : zJ w) {M : zM} {o : Nat} {x ln i : Int32} {v : Int64} (hk : zk o = 8) (ho : o = 138) (h : ∀ q, q < 4 → M.1 (o + 12) q = -1) : zCi l w yX8_item cX8_item 7 (some .int) 2 [.ref (w.2.2 o), .int x, .int ln, .int i, .long v] M (fun r M2 => M2 = M ∧ r = if (x < 0 ∨ 3 < x) ∨ (ln < 0 ∨ 3 < ln) then -1 else -11) := by
  obtain ⟨hz1, hz2, hz3, hz4, hz5, hz6, hz7, hz8, hz9, hz10, hz11, hz12, hz13, hz14, hz15⟩ := zn8 ho
  have hw : ∀ q b n, q < 4 → whyF (M.1 (o + 12) q) b ln i n = -11 := fun q b n hq => by rw [h q hq]; rfl
  refine zCi_of J zm_X8_item [some (.ref (w.2.2 o)), some (.int x), some (.int ln), some (.int i), some (.long v), none, none] (Nat.le_of_ble_eq_true rfl) rfl (fun g hg F X => ?_)
  subst hg
  refine z_iload_n F dX8_item_0 rfl ?_
  refine z_callSi F (c_X8_isSheet J) zm_X8_isSheet zst_X8_isSheet ml_X8_227 rfl rfl (Nat.le_of_ble_eq_true rfl) dX8_item_1 (by omega) (fun r_1 M_1 h_1 => ?_)
  obtain ⟨e_1, rfl⟩ := h_1
  replace e_1 := Eq.symm e_1
  subst e_1
  refine z_if_eq (tgt := 14) F dX8_item_4 (by decide) (fun h_4 => ?_) (fun h_4 => ?_)
  · replace h_4 := bI_0.mp h_4
    refine z_iconst (v := (-1)) F dX8_item_14 (by decide) ?_
    refine z_iret F X dX8_item_15 ?_
    exact ⟨rfl, (if_pos (Or.inl (Classical.not_not.mp h_4))).symm⟩
  · replace h_4 := bI_1.mp h_4
    refine z_iload_n F dX8_item_7 rfl ?_
    refine z_callSi F (c_X8_isLane J) zm_X8_isLane zst_X8_isLane ml_X8_230 rfl rfl (Nat.le_of_ble_eq_true rfl) dX8_item_8 (by omega) (fun r_8 M_8 h_8 => ?_)
    obtain ⟨e_8, rfl⟩ := h_8
    replace e_8 := Eq.symm e_8
    subst e_8
    refine z_if_ne (tgt := 16) F dX8_item_11 (by decide) (fun h_11 => ?_) (fun h_11 => ?_)
    · replace h_11 := bI_1.mp h_11
      obtain ⟨j, hj, rfl⟩ := s4_in h_4
      refine z_aload_n F dX8_item_16 rfl ?_
      refine z_iload_n F dX8_item_17 rfl ?_
      refine z_iload_n F dX8_item_18 rfl ?_
      refine z_iload_n F dX8_item_19 rfl ?_
      refine z_iconst (v := 1) F dX8_item_20 (by decide) ?_
      refine z_callVi F (c_X8_why J hk ho hj) zm_X8_why zv_X8_why ml_X8_235 (by with_reducible assumption) (by decide) rfl rfl rfl (Nat.le_of_ble_eq_true rfl) dX8_item_21 (by omega) (fun r_21 M_21 h_21 => ?_)
      obtain ⟨e_21, rfl⟩ := h_21
      replace e_21 := Eq.symm e_21
      subst e_21
      refine z_istore (lv' := [_, _, _, _, _, _, _]) F dX8_item_24 (by decide) rfl rfl ?_
      refine z_iload F dX8_item_26 rfl ?_
      refine z_if_ge (tgt := 34) F dX8_item_28 (by decide) (fun h_28 => absurd h_28 (by rw [hw j _ _ hj]; decide)) (fun h_28 => ?_)
      refine z_iload F dX8_item_31 rfl ?_
      refine z_iret F X dX8_item_33 ?_
      exact ⟨rfl, by rw [hw j _ _ hj, if_neg (fun q => q.elim h_4 h_11)]⟩
    · replace h_11 := bI_0.mp h_11
      refine z_iconst (v := (-1)) F dX8_item_14 (by decide) ?_
      refine z_iret F X dX8_item_15 ?_
      exact ⟨rfl, (if_pos (Or.inr (Classical.not_not.mp h_11))).symm⟩
theorem c_X8_film0 {l : Launch} {w : zE} (J : zJ w) {M : zM} {o : Nat} {x ln i : Int32} (hk : zk o = 8) (ho : o = 138) (h : ∀ q, q < 4 → M.1 (o + 12) q = -1) : zCi l w yX8_film cX8_film 7 (some .int) 2 [.ref (w.2.2 o), .int x, .int ln, .int i] M (fun r M2 => M2 = M ∧ r = if (x < 0 ∨ 3 < x) ∨ (ln < 0 ∨ 3 < ln) then -1 else -11) := by
  obtain ⟨hz1, hz2, hz3, hz4, hz5, hz6, hz7, hz8, hz9, hz10, hz11, hz12, hz13, hz14, hz15⟩ := zn8 ho
  have hw : ∀ q b n, q < 4 → whyF (M.1 (o + 12) q) b ln i n = -11 := fun q b n hq => by rw [h q hq]; rfl
  refine zCi_of J zm_X8_film [some (.ref (w.2.2 o)), some (.int x), some (.int ln), some (.int i), none, none, none] (Nat.le_of_ble_eq_true rfl) rfl (fun g hg F X => ?_)
  subst hg
  refine z_iload_n F dX8_film_0 rfl ?_
  refine z_callSi F (c_X8_isSheet J) zm_X8_isSheet zst_X8_isSheet ml_X8_227 rfl rfl (Nat.le_of_ble_eq_true rfl) dX8_film_1 (by omega) (fun r_1 M_1 h_1 => ?_)
  obtain ⟨e_1, rfl⟩ := h_1
  replace e_1 := Eq.symm e_1
  subst e_1
  refine z_if_eq (tgt := 14) F dX8_film_4 (by decide) (fun h_4 => ?_) (fun h_4 => ?_)
  · replace h_4 := bI_0.mp h_4
    refine z_iconst (v := (-1)) F dX8_film_14 (by decide) ?_
    refine z_iret F X dX8_film_15 ?_
    exact ⟨rfl, (if_pos (Or.inl (Classical.not_not.mp h_4))).symm⟩
  · replace h_4 := bI_1.mp h_4
    refine z_iload_n F dX8_film_7 rfl ?_
    refine z_callSi F (c_X8_isLane J) zm_X8_isLane zst_X8_isLane ml_X8_230 rfl rfl (Nat.le_of_ble_eq_true rfl) dX8_film_8 (by omega) (fun r_8 M_8 h_8 => ?_)
    obtain ⟨e_8, rfl⟩ := h_8
    replace e_8 := Eq.symm e_8
    subst e_8
    refine z_if_ne (tgt := 16) F dX8_film_11 (by decide) (fun h_11 => ?_) (fun h_11 => ?_)
    · replace h_11 := bI_1.mp h_11
      obtain ⟨j, hj, rfl⟩ := s4_in h_4
      refine z_bipush (v := 12) F dX8_film_16 (by decide) ?_
      refine z_aload_n F dX8_film_18 rfl ?_
      refine zg_X8_now F (by with_reducible assumption) fl_X8_16 dX8_film_19 (fun hk_19 => ?_)
      refine z_iconst (v := 3) F dX8_film_22 (by decide) ?_
      refine z_iald10n (q := 3) F (by with_reducible assumption) (by decide) (by rw [hz3]; omega) dX8_film_23 ?_
      refine z_isub F dX8_film_24 ?_
      refine z_istore (lv' := [_, _, _, _, _, _, _]) F dX8_film_25 (by decide) rfl rfl ?_
      refine z_aload_n F dX8_film_27 rfl ?_
      refine z_iload_n F dX8_film_28 rfl ?_
      refine z_iload_n F dX8_film_29 rfl ?_
      refine z_iload_n F dX8_film_30 rfl ?_
      refine z_iload F dX8_film_31 rfl ?_
      refine z_callVi F (c_X8_why J hk ho hj) zm_X8_why zv_X8_why ml_X8_235 (by with_reducible assumption) (by decide) rfl rfl rfl (Nat.le_of_ble_eq_true rfl) dX8_film_33 (by omega) (fun r_33 M_33 h_33 => ?_)
      obtain ⟨e_33, rfl⟩ := h_33
      replace e_33 := Eq.symm e_33
      subst e_33
      refine z_istore (lv' := [_, _, _, _, _, _, _]) F dX8_film_36 (by decide) rfl rfl ?_
      refine z_iload F dX8_film_38 rfl ?_
      refine z_if_ge (tgt := 46) F dX8_film_40 (by decide) (fun h_40 => absurd h_40 (by rw [hw j _ _ hj]; decide)) (fun h_40 => ?_)
      refine z_iload F dX8_film_43 rfl ?_
      refine z_iret F X dX8_film_45 ?_
      exact ⟨rfl, by rw [hw j _ _ hj, if_neg (fun q => q.elim h_4 h_11)]⟩
    · replace h_11 := bI_0.mp h_11
      refine z_iconst (v := (-1)) F dX8_film_14 (by decide) ?_
      refine z_iret F X dX8_film_15 ?_
      exact ⟨rfl, (if_pos (Or.inr (Classical.not_not.mp h_11))).symm⟩
theorem c_X8_deal0 {l : Launch} {w : zE} (J : zJ w) {M : zM} {o : Nat} {x ln i : Int32} (hk : zk o = 8) (ho : o = 138) (h : ∀ q, q < 4 → M.1 (o + 12) q = -1) : zCi l w yX8_deal cX8_deal 9 (some .int) 2 [.ref (w.2.2 o), .int x, .int ln, .int i] M (fun r M2 => M2 = M ∧ r = if (x < 0 ∨ 3 < x) ∨ (ln < 0 ∨ 3 < ln) then -1 else -11) := by
  obtain ⟨hz1, hz2, hz3, hz4, hz5, hz6, hz7, hz8, hz9, hz10, hz11, hz12, hz13, hz14, hz15⟩ := zn8 ho
  have hw : ∀ q b n, q < 4 → whyF (M.1 (o + 12) q) b ln i n = -11 := fun q b n hq => by rw [h q hq]; rfl
  refine zCi_of J zm_X8_deal [some (.ref (w.2.2 o)), some (.int x), some (.int ln), some (.int i), none, none, none, none, none] (Nat.le_of_ble_eq_true rfl) rfl (fun g hg F X => ?_)
  subst hg
  refine z_iload_n F dX8_deal_0 rfl ?_
  refine z_callSi F (c_X8_isSheet J) zm_X8_isSheet zst_X8_isSheet ml_X8_227 rfl rfl (Nat.le_of_ble_eq_true rfl) dX8_deal_1 (by omega) (fun r_1 M_1 h_1 => ?_)
  obtain ⟨e_1, rfl⟩ := h_1
  replace e_1 := Eq.symm e_1
  subst e_1
  refine z_if_eq (tgt := 14) F dX8_deal_4 (by decide) (fun h_4 => ?_) (fun h_4 => ?_)
  · replace h_4 := bI_0.mp h_4
    refine z_iconst (v := (-1)) F dX8_deal_14 (by decide) ?_
    refine z_iret F X dX8_deal_15 ?_
    exact ⟨rfl, (if_pos (Or.inl (Classical.not_not.mp h_4))).symm⟩
  · replace h_4 := bI_1.mp h_4
    refine z_iload_n F dX8_deal_7 rfl ?_
    refine z_callSi F (c_X8_isLane J) zm_X8_isLane zst_X8_isLane ml_X8_230 rfl rfl (Nat.le_of_ble_eq_true rfl) dX8_deal_8 (by omega) (fun r_8 M_8 h_8 => ?_)
    obtain ⟨e_8, rfl⟩ := h_8
    replace e_8 := Eq.symm e_8
    subst e_8
    refine z_if_ne (tgt := 16) F dX8_deal_11 (by decide) (fun h_11 => ?_) (fun h_11 => ?_)
    · replace h_11 := bI_1.mp h_11
      obtain ⟨j, hj, rfl⟩ := s4_in h_4
      refine z_aload_n F dX8_deal_16 rfl ?_
      refine z_iload_n F dX8_deal_17 rfl ?_
      refine z_iload_n F dX8_deal_18 rfl ?_
      refine z_iload_n F dX8_deal_19 rfl ?_
      refine z_aload_n F dX8_deal_20 rfl ?_
      refine zg_X8_people F (by with_reducible assumption) fl_X8_76 dX8_deal_21 ?_
      refine z_callVi F (c_X8_why J hk ho hj) zm_X8_why zv_X8_why ml_X8_235 (by with_reducible assumption) (by decide) rfl rfl rfl (Nat.le_of_ble_eq_true rfl) dX8_deal_24 (by omega) (fun r_24 M_24 h_24 => ?_)
      obtain ⟨e_24, rfl⟩ := h_24
      replace e_24 := Eq.symm e_24
      subst e_24
      refine z_istore (lv' := [_, _, _, _, _, _, _, _, _]) F dX8_deal_27 (by decide) rfl rfl ?_
      refine z_iload F dX8_deal_29 rfl ?_
      refine z_if_ge (tgt := 37) F dX8_deal_31 (by decide) (fun h_31 => absurd h_31 (by rw [hw j _ _ hj]; decide)) (fun h_31 => ?_)
      refine z_iload F dX8_deal_34 rfl ?_
      refine z_iret F X dX8_deal_36 ?_
      exact ⟨rfl, by rw [hw j _ _ hj, if_neg (fun q => q.elim h_4 h_11)]⟩
    · replace h_11 := bI_0.mp h_11
      refine z_iconst (v := (-1)) F dX8_deal_14 (by decide) ?_
      refine z_iret F X dX8_deal_15 ?_
      exact ⟨rfl, (if_pos (Or.inr (Classical.not_not.mp h_11))).symm⟩
theorem c_X8_seen0 {l : Launch} {w : zE} (J : zJ w) {M : zM} {o : Nat} {x ln i n : Int32} (hk : zk o = 8) (ho : o = 138) (h : ∀ q, q < 4 → M.1 (o + 12) q = -1) : zCi l w yX8_seen cX8_seen 10 (some .int) 2 [.ref (w.2.2 o), .int x, .int ln, .int i, .int n] M (fun r M2 => M2 = M ∧ r = if ((x < 0 ∨ 3 < x) ∨ (ln < 0 ∨ 3 < ln)) ∨ (n < 1 ∨ 8 < n) then -1 else -11) := by
  obtain ⟨hz1, hz2, hz3, hz4, hz5, hz6, hz7, hz8, hz9, hz10, hz11, hz12, hz13, hz14, hz15⟩ := zn8 ho
  have hw : ∀ q b n, q < 4 → whyF (M.1 (o + 12) q) b ln i n = -11 := fun q b n hq => by rw [h q hq]; rfl
  refine zCi_of J zm_X8_seen [some (.ref (w.2.2 o)), some (.int x), some (.int ln), some (.int i), some (.int n), none, none, none, none, none] (Nat.le_of_ble_eq_true rfl) rfl (fun g hg F X => ?_)
  subst hg
  refine z_iload_n F dX8_seen_0 rfl ?_
  refine z_callSi F (c_X8_isSheet J) zm_X8_isSheet zst_X8_isSheet ml_X8_227 rfl rfl (Nat.le_of_ble_eq_true rfl) dX8_seen_1 (by omega) (fun r_1 M_1 h_1 => ?_)
  obtain ⟨e_1, rfl⟩ := h_1
  replace e_1 := Eq.symm e_1
  subst e_1
  refine z_if_eq (tgt := 27) F dX8_seen_4 (by decide) (fun h_4 => ?_) (fun h_4 => ?_)
  · replace h_4 := bI_0.mp h_4
    refine z_iconst (v := (-1)) F dX8_seen_27 (by decide) ?_
    refine z_iret F X dX8_seen_28 ?_
    exact ⟨rfl, (if_pos (Or.inl (Or.inl (Classical.not_not.mp h_4)))).symm⟩
  · replace h_4 := bI_1.mp h_4
    refine z_iload_n F dX8_seen_7 rfl ?_
    refine z_callSi F (c_X8_isLane J) zm_X8_isLane zst_X8_isLane ml_X8_230 rfl rfl (Nat.le_of_ble_eq_true rfl) dX8_seen_8 (by omega) (fun r_8 M_8 h_8 => ?_)
    obtain ⟨e_8, rfl⟩ := h_8
    replace e_8 := Eq.symm e_8
    subst e_8
    refine z_if_eq (tgt := 27) F dX8_seen_11 (by decide) (fun h_11 => ?_) (fun h_11 => ?_)
    · replace h_11 := bI_0.mp h_11
      refine z_iconst (v := (-1)) F dX8_seen_27 (by decide) ?_
      refine z_iret F X dX8_seen_28 ?_
      exact ⟨rfl, (if_pos (Or.inl (Or.inr (Classical.not_not.mp h_11)))).symm⟩
    · replace h_11 := bI_1.mp h_11
      refine z_iload F dX8_seen_14 rfl ?_
      refine z_i2l F dX8_seen_16 ?_
      refine z_lconst (v := 1) F dX8_seen_17 (by decide) ?_
      refine z_ldc2 F dX8_seen_18 cl_X8_233 ?_
      refine z_callSi F (d_X8_in J (a := 1) (b := 8) (by decide) (by decide)) zm_X8_in zst_X8_in ml_X8_72 rfl rfl (Nat.le_of_ble_eq_true rfl) dX8_seen_21 (by omega) (fun r_21 M_21 h_21 => ?_)
      obtain ⟨e_21, rfl⟩ := h_21
      replace e_21 := Eq.symm e_21
      subst e_21
      refine z_if_ne (tgt := 29) F dX8_seen_24 (by decide) (fun h_24 => ?_) (fun h_24 => ?_)
      · replace h_24 := bI_1.mp h_24
        obtain ⟨j, hj, rfl⟩ := s4_in h_4
        refine z_aload_n F dX8_seen_29 rfl ?_
        refine z_iload_n F dX8_seen_30 rfl ?_
        refine z_iload_n F dX8_seen_31 rfl ?_
        refine z_iload_n F dX8_seen_32 rfl ?_
        refine z_iconst (v := 2) F dX8_seen_33 (by decide) ?_
        refine z_iload F dX8_seen_34 rfl ?_
        refine z_imul F dX8_seen_36 ?_
        refine z_callVi F (c_X8_why J hk ho hj) zm_X8_why zv_X8_why ml_X8_235 (by with_reducible assumption) (by decide) rfl rfl rfl (Nat.le_of_ble_eq_true rfl) dX8_seen_37 (by omega) (fun r_37 M_37 h_37 => ?_)
        obtain ⟨e_37, rfl⟩ := h_37
        replace e_37 := Eq.symm e_37
        subst e_37
        refine z_istore (lv' := [_, _, _, _, _, _, _, _, _, _]) F dX8_seen_40 (by decide) rfl rfl ?_
        refine z_iload F dX8_seen_42 rfl ?_
        refine z_if_ge (tgt := 50) F dX8_seen_44 (by decide) (fun h_44 => absurd h_44 (by rw [hw j _ _ hj]; decide)) (fun h_44 => ?_)
        refine z_iload F dX8_seen_47 rfl ?_
        refine z_iret F X dX8_seen_49 ?_
        exact ⟨rfl, by rw [hw j _ _ hj, if_neg (fun q => q.elim (fun q => q.elim h_4 h_11) (by grind))]⟩
      · replace h_24 := bI_0.mp h_24
        refine z_iconst (v := (-1)) F dX8_seen_27 (by decide) ?_
        refine z_iret F X dX8_seen_28 ?_
        exact ⟨rfl, (if_pos (Or.inr (by grind))).symm⟩
theorem c_X8_copy0 {l : Launch} {w : zE} (J : zJ w) {M : zM} {o : Nat} {x i y j n : Int32} (hk : zk o = 8) (ho : o = 138) (h : ∀ q, q < 4 → M.1 (o + 12) q = -1) : zCi l w yX8_copy cX8_copy 7 (some .int) 2 [.ref (w.2.2 o), .int x, .int i, .int y, .int j, .int n] M (fun r M2 => M2 = M ∧ r = if (x < 0 ∨ 3 < x) ∨ (y < 0 ∨ 3 < y) then -1 else -11) := by
  obtain ⟨hz1, hz2, hz3, hz4, hz5, hz6, hz7, hz8, hz9, hz10, hz11, hz12, hz13, hz14, hz15⟩ := zn8 ho
  refine zCi_of J zm_X8_copy [some (.ref (w.2.2 o)), some (.int x), some (.int i), some (.int y), some (.int j), some (.int n), none] (Nat.le_of_ble_eq_true rfl) rfl (fun g hg F X => ?_)
  subst hg
  refine z_iload_n F dX8_copy_0 rfl ?_
  refine z_callSi F (c_X8_isSheet J) zm_X8_isSheet zst_X8_isSheet ml_X8_227 rfl rfl (Nat.le_of_ble_eq_true rfl) dX8_copy_1 (by omega) (fun r_1 M_1 h_1 => ?_)
  obtain ⟨e_1, rfl⟩ := h_1
  replace e_1 := Eq.symm e_1
  subst e_1
  refine z_if_eq (tgt := 14) F dX8_copy_4 (by decide) (fun h_4 => ?_) (fun h_4 => ?_)
  · replace h_4 := bI_0.mp h_4
    refine z_iconst (v := (-1)) F dX8_copy_14 (by decide) ?_
    refine z_iret F X dX8_copy_15 ?_
    exact ⟨rfl, (if_pos (Or.inl (Classical.not_not.mp h_4))).symm⟩
  · replace h_4 := bI_1.mp h_4
    refine z_iload_n F dX8_copy_7 rfl ?_
    refine z_callSi F (c_X8_isSheet J) zm_X8_isSheet zst_X8_isSheet ml_X8_227 rfl rfl (Nat.le_of_ble_eq_true rfl) dX8_copy_8 (by omega) (fun r_8 M_8 h_8 => ?_)
    obtain ⟨e_8, rfl⟩ := h_8
    replace e_8 := Eq.symm e_8
    subst e_8
    refine z_if_ne (tgt := 16) F dX8_copy_11 (by decide) (fun h_11 => ?_) (fun h_11 => ?_)
    · replace h_11 := bI_1.mp h_11
      obtain ⟨q, hq, rfl⟩ := s4_in h_4
      refine z_aload_n F dX8_copy_16 rfl ?_
      refine zg_X8_lanes F (by with_reducible assumption) fl_X8_43 dX8_copy_17 (fun hk_17 => ?_)
      refine z_iload_n F dX8_copy_20 rfl ?_
      refine z_iald10n (q := q) F (by with_reducible assumption) (by first | with_reducible rfl | (simp only [n4, n2, n3, n5, n14, n16, na1, na2, na3, nI_add, nI_1, nI_pred]; done) | (simp only [n4, n2, n3, n5, n14, n16, na1, na2, na3, nI_add, nI_1, nI_pred, Nat.add_assoc, Nat.add_comm, Nat.add_left_comm]; done)) (by rw [hz12]; omega) dX8_copy_21 ?_
      refine z_if_lt (tgt := 34) F dX8_copy_22 (by decide) (fun h_22 => ?_) (fun h_22 => absurd h_22 (by rw [h q hq]; decide))
      refine z_bipush (v := (-11)) F dX8_copy_34 (by decide) ?_
      refine z_iret F X dX8_copy_36 ?_
      exact ⟨rfl, by rw [if_neg (fun q => q.elim h_4 h_11)]⟩
    · replace h_11 := bI_0.mp h_11
      refine z_iconst (v := (-1)) F dX8_copy_14 (by decide) ?_
      refine z_iret F X dX8_copy_15 ?_
      exact ⟨rfl, (if_pos (Or.inr (Classical.not_not.mp h_11))).symm⟩
/-- a row of the image -/
def ntL (f : zF1) (k0 : Nat) (g : zF1) : Nat → zF1
  | 0 => g
  | n + 1 => va_up (ntL f k0 g n) (k0 + n) (f n)
theorem c_X8_notesRow {l : Launch} {w : zE} (J : zJ w) {M : zM} {o b k0 : Nat} (hk : zk o = 8) (ho : o = 138) (hb : zk b = 10) (hne : b ≠ o + 11) (h0 : k0 + zn b ≤ 187) : zCi l w yX8_notesRow cX8_notesRow 4 (some .int) 0 [.ref (w.2.2 o), .ref (w.2.2 b), .int (nI k0)] M (fun r M2 => r = nI (k0 + zn b) ∧ M2 = za M (o + 11) (ntL (M.1 b) k0 (M.1 (o + 11)) (zn b))) := by
  obtain ⟨hz1, hz2, hz3, hz4, hz5, hz6, hz7, hz8, hz9, hz10, hz11, hz12, hz13, hz14, hz15⟩ := zn8 ho
  refine zCi_of J zm_X8_notesRow [some (.ref (w.2.2 o)), some (.ref (w.2.2 b)), some (.int (nI k0)), none] (Nat.le_of_ble_eq_true rfl) rfl (fun g hg F X => ?_)
  subst hg
  have key : ∀ (r k : Nat), k + r = zn b → ZW w g 4 2 [some (.ref (w.2.2 o)), some (.ref (w.2.2 b)), some (.int (nI k0)), some (.int (nI k))] [] (za M (o + 11) (ntL (M.1 b) k0 (M.1 (o + 11)) k)) := by
    intro r
    induction r with
    | zero =>
      intro k hkr
      obtain rfl : k = zn b := by omega
      refine z_iload_n F dX8_notesRow_2 rfl ?_
      refine z_aload_n F dX8_notesRow_3 rfl ?_
      refine z_alen10 F (by with_reducible assumption) dX8_notesRow_4 ?_
      refine z_ic_ge (tgt := 25) F dX8_notesRow_5 (by decide) (fun h_5 => ?_) (fun h_5 => absurd h_5 (fun q => absurd q (Int32.not_lt.mpr (Int32.le_refl _))))
      refine z_iload_n F dX8_notesRow_25 rfl ?_
      refine z_aload_n F dX8_notesRow_26 rfl ?_
      refine z_alen10 F (by with_reducible assumption) dX8_notesRow_27 ?_
      refine z_iadd F dX8_notesRow_28 ?_
      refine z_iret F X dX8_notesRow_29 ?_
      exact ⟨nI_add _ _, rfl⟩
    | succ r ih =>
      intro k hkr
      refine z_iload_n F dX8_notesRow_2 rfl ?_
      refine z_aload_n F dX8_notesRow_3 rfl ?_
      refine z_alen10 F (by with_reducible assumption) dX8_notesRow_4 ?_
      refine z_ic_ge (tgt := 25) F dX8_notesRow_5 (by decide) (fun h_5 => absurd h_5 (nI_ge (by omega) (by omega))) (fun h_5 => ?_)
      refine z_aload_n F dX8_notesRow_8 rfl ?_
      refine zg_X8_image F (by with_reducible assumption) fl_X8_40 dX8_notesRow_9 (fun hk_9 => ?_)
      refine z_iload_n F dX8_notesRow_12 rfl ?_
      refine z_iload_n F dX8_notesRow_13 rfl ?_
      refine z_iadd F dX8_notesRow_14 ?_
      refine z_aload_n F dX8_notesRow_15 rfl ?_
      refine z_iload_n F dX8_notesRow_16 rfl ?_
      refine z_iald10n (q := k) F (by with_reducible assumption) (by first | with_reducible rfl | (simp only [n4, n2, n3, n5, n14, n16, na1, na2, na3, nI_add, nI_1, nI_pred]; done) | (simp only [n4, n2, n3, n5, n14, n16, na1, na2, na3, nI_add, nI_1, nI_pred, Nat.add_assoc, Nat.add_comm, Nat.add_left_comm]; done)) (by omega) dX8_notesRow_17 ?_
      try simp only [za_off _ hne]
      refine z_iast10n (q := (k0 + k)) F (by with_reducible assumption) (by first | with_reducible rfl | (simp only [n4, n2, n3, n5, n14, n16, na1, na2, na3, nI_add, nI_1, nI_pred]; done) | (simp only [n4, n2, n3, n5, n14, n16, na1, na2, na3, nI_add, nI_1, nI_pred, Nat.add_assoc, Nat.add_comm, Nat.add_left_comm]; done)) (by rw [hz11]; omega) dX8_notesRow_18 ?_
      refine z_iincc (c := 1) (lv' := [_, _, _, _]) F dX8_notesRow_19 rfl (by decide) (by decide) rfl rfl ?_
      refine z_goto (tgt := 2) F dX8_notesRow_22 (by decide) ?_
      rw [nI_1, zs_zaa]
      exact ih (k + 1) (by omega)
  refine z_iconst (v := 0) F dX8_notesRow_0 (by decide) ?_
  refine z_istore_n (lv' := [_, _, _, _]) F dX8_notesRow_1 (by decide) rfl rfl ?_
  have K := key (zn b) 0 (by omega)
  rw [show ntL (M.1 b) k0 (M.1 (o + 11)) 0 = M.1 (o + 11) from rfl, za_self] at K
  exact K
theorem c_X8_image1 {l : Launch} {w : zE} (J : zJ w) {M : zM} {o : Nat} (hk : zk o = 8) (ho : o = 138) : zCi l w yX8_image cX8_image 2 (some .int) 1 [.ref (w.2.2 o)] M (fun r _ => r = 1) := by
  obtain ⟨hz1, hz2, hz3, hz4, hz5, hz6, hz7, hz8, hz9, hz10, hz11, hz12, hz13, hz14, hz15⟩ := zn8 ho
  refine zCi_of J zm_X8_image [some (.ref (w.2.2 o)), none] (Nat.le_of_ble_eq_true rfl) rfl (fun g hg F X => ?_)
  subst hg
  refine z_aload_n F dX8_image_0 rfl ?_
  refine zg_X8_image F (by with_reducible assumption) fl_X8_40 dX8_image_1 (fun hk_1 => ?_)
  refine z_iconst (v := 0) F dX8_image_4 (by decide) ?_
  refine z_aload_n F dX8_image_5 rfl ?_
  refine zg_X8_things F (by with_reducible assumption) fl_X8_69 dX8_image_6 ?_
  refine z_iast10n (q := 0) F (by with_reducible assumption) (by decide) (by rw [hz11]; omega) dX8_image_9 ?_
  refine z_aload_n F dX8_image_10 rfl ?_
  refine zg_X8_image F (by with_reducible assumption) fl_X8_40 dX8_image_11 (fun hk_11 => ?_)
  refine z_iconst (v := 1) F dX8_image_14 (by decide) ?_
  refine z_aload_n F dX8_image_15 rfl ?_
  refine zg_X8_people F (by with_reducible assumption) fl_X8_76 dX8_image_16 ?_
  refine z_iast10n (q := 1) F (by with_reducible assumption) (by decide) (by rw [hz11]; omega) dX8_image_19 ?_
  refine z_aload_n F dX8_image_20 rfl ?_
  refine zg_X8_image F (by with_reducible assumption) fl_X8_40 dX8_image_21 (fun hk_21 => ?_)
  refine z_iconst (v := 2) F dX8_image_24 (by decide) ?_
  refine z_aload_n F dX8_image_25 rfl ?_
  refine zg_X8_heed F (by with_reducible assumption) fl_X8_60 dX8_image_26 ?_
  refine z_iast10n (q := 2) F (by with_reducible assumption) (by decide) (by rw [hz11]; omega) dX8_image_29 ?_
  refine z_aload_n F dX8_image_30 rfl ?_
  refine zg_X8_image F (by with_reducible assumption) fl_X8_40 dX8_image_31 (fun hk_31 => ?_)
  refine z_iconst (v := 3) F dX8_image_34 (by decide) ?_
  refine z_aload_n F dX8_image_35 rfl ?_
  refine zg_X8_well F (by with_reducible assumption) fl_X8_56 dX8_image_36 ?_
  refine z_iast10n (q := 3) F (by with_reducible assumption) (by decide) (by rw [hz11]; omega) dX8_image_39 ?_
  refine z_aload_n F dX8_image_40 rfl ?_
  refine zg_X8_image F (by with_reducible assumption) fl_X8_40 dX8_image_41 (fun hk_41 => ?_)
  refine z_iconst (v := 4) F dX8_image_44 (by decide) ?_
  refine z_aload_n F dX8_image_45 rfl ?_
  refine zg_X8_undos F (by with_reducible assumption) fl_X8_66 dX8_image_46 ?_
  refine z_iast10n (q := 4) F (by with_reducible assumption) (by decide) (by rw [hz11]; omega) dX8_image_49 ?_
  refine z_aload_n F dX8_image_50 rfl ?_
  refine z_aload_n F dX8_image_51 rfl ?_
  refine zg_X8_thing F (by with_reducible assumption) fl_X8_7 dX8_image_52 (fun hk_52 => ?_)
  refine z_iconst (v := 5) F dX8_image_55 (by decide) ?_
  refine z_callVi F (c_X8_notesRow J (k0 := 5) hk ho hk_52 (by omega) (by rw [hz1]; decide)) zm_X8_notesRow zv_X8_notesRow ml_X8_216 (by with_reducible assumption) (by decide) rfl rfl rfl (Nat.le_of_ble_eq_true rfl) dX8_image_56 (by omega) (fun r_56 M_56 h_56 => ?_)
  obtain ⟨e_56, -⟩ := h_56
  simp only [hz1, hz2, hz3, hz7] at e_56
  subst e_56
  refine z_istore_n (lv' := [_, _]) F dX8_image_59 (by decide) rfl rfl ?_
  refine z_aload_n F dX8_image_60 rfl ?_
  refine z_aload_n F dX8_image_61 rfl ?_
  refine zg_X8_person F (by with_reducible assumption) fl_X8_13 dX8_image_62 (fun hk_62 => ?_)
  refine z_iload_n F dX8_image_65 rfl ?_
  refine z_callVi F (c_X8_notesRow J (k0 := 45) hk ho hk_62 (by omega) (by rw [hz2]; decide)) zm_X8_notesRow zv_X8_notesRow ml_X8_216 (by with_reducible assumption) (by decide) rfl rfl rfl (Nat.le_of_ble_eq_true rfl) dX8_image_66 (by omega) (fun r_66 M_66 h_66 => ?_)
  obtain ⟨e_66, -⟩ := h_66
  simp only [hz1, hz2, hz3, hz7] at e_66
  subst e_66
  refine z_istore_n (lv' := [_, _]) F dX8_image_69 (by decide) rfl rfl ?_
  refine z_aload_n F dX8_image_70 rfl ?_
  refine z_aload_n F dX8_image_71 rfl ?_
  refine zg_X8_now F (by with_reducible assumption) fl_X8_16 dX8_image_72 (fun hk_72 => ?_)
  refine z_iload_n F dX8_image_75 rfl ?_
  refine z_callVi F (c_X8_notesRow J (k0 := 61) hk ho hk_72 (by omega) (by rw [hz3]; decide)) zm_X8_notesRow zv_X8_notesRow ml_X8_216 (by with_reducible assumption) (by decide) rfl rfl rfl (Nat.le_of_ble_eq_true rfl) dX8_image_76 (by omega) (fun r_76 M_76 h_76 => ?_)
  obtain ⟨e_76, -⟩ := h_76
  simp only [hz1, hz2, hz3, hz7] at e_76
  subst e_76
  refine z_istore_n (lv' := [_, _]) F dX8_image_79 (by decide) rfl rfl ?_
  refine z_aload_n F dX8_image_80 rfl ?_
  refine z_aload_n F dX8_image_81 rfl ?_
  refine zg_X8_undone F (by with_reducible assumption) fl_X8_28 dX8_image_82 (fun hk_82 => ?_)
  refine z_iload_n F dX8_image_85 rfl ?_
  refine z_callVi F (c_X8_notesRow J (k0 := 75) hk ho hk_82 (by omega) (by rw [hz7]; decide)) zm_X8_notesRow zv_X8_notesRow ml_X8_216 (by with_reducible assumption) (by decide) rfl rfl rfl (Nat.le_of_ble_eq_true rfl) dX8_image_86 (by omega) (fun r_86 M_86 h_86 => ?_)
  obtain ⟨e_86, -⟩ := h_86
  simp only [hz1, hz2, hz3, hz7] at e_86
  subst e_86
  refine z_pop F dX8_image_89 rfl ?_
  refine z_aload_n F dX8_image_90 rfl ?_
  refine z_iconst (v := 1) F dX8_image_91 (by decide) ?_
  refine zp_X8_isImage F (by with_reducible assumption) fl_X8_220 (by decide) (by decide) dX8_image_92 ?_
  refine z_iconst (v := 1) F dX8_image_95 (by decide) ?_
  refine z_iret F X dX8_image_96 ?_
  rfl
end
section
/-! a road of no letters -/
theorem zs_g (M : zM) (b o : Nat) (v : Int32) (b' o' : Nat) : (zs M b o v).1 b' o' = if b' = b ∧ o' = o then v else M.1 b' o' := by
  by_cases h : b' = b
  · subst h
    rw [zs_at]
    unfold va_up
    by_cases q : o' = o
    · rw [if_pos q, if_pos ⟨rfl, q⟩]
    · rw [if_neg q, if_neg (fun z => q z.2)]
  · rw [zs_off _ h, if_neg (fun z => h z.1)]
theorem c_X8_here0 {l : Launch} {w : zE} (J : zJ w) {M : zM} (h10 : M.1 138 10 = 0) (h11 : M.1 138 11 = 0) : zCi l w yX8_here cX8_here 1 (some .int) 0 [.ref (w.2.2 138)] M (fun r M2 => M2 = M ∧ r = 0) := by
  have hk : zk 138 = 8 := by decide
  refine zCi_of J zm_X8_here [some (.ref (w.2.2 138))] (Nat.le_of_ble_eq_true rfl) rfl (fun g hg F X => ?_)
  subst hg
  refine z_aload_n F dX8_here_0 rfl ?_
  refine zg_X8_at F (by with_reducible assumption) fl_X8_124 dX8_here_1 ?_
  try simp only [h10, h11]
  refine z_aload_n F dX8_here_4 rfl ?_
  refine zg_X8_taped F (by with_reducible assumption) fl_X8_121 dX8_here_5 ?_
  try simp only [h10, h11]
  refine z_ic_ge (tgt := 38) F dX8_here_8 (by decide) (fun h_8 => ?_) (fun h_8 => absurd h_8 (by decide))
  refine z_aload_n F dX8_here_38 rfl ?_
  refine zg_X8_at F (by with_reducible assumption) fl_X8_124 dX8_here_39 ?_
  try simp only [h10, h11]
  refine z_aload_n F dX8_here_42 rfl ?_
  refine zg_X8_taped F (by with_reducible assumption) fl_X8_121 dX8_here_43 ?_
  try simp only [h10, h11]
  refine z_ic_ge (tgt := 61) F dX8_here_46 (by decide) (fun h_46 => ?_) (fun h_46 => absurd h_46 (by decide))
  refine z_iconst (v := 0) F dX8_here_61 (by decide) ?_
  refine z_iret F X dX8_here_62 ?_
  exact ⟨rfl, rfl⟩
theorem c_X8_has0 {l : Launch} {w : zE} (J : zJ w) {M : zM} {c : Int32} (h12 : M.1 138 12 = 1) : zCi l w yX8_has cX8_has 3 (some .boolean) 1 [.ref (w.2.2 138), .int c] M (fun r M2 => M2 = zs M 138 11 (M.1 138 11 + 0) ∧ r = 0) := by
  have hk : zk 138 = 8 := by decide
  refine zCi_of J zm_X8_has [some (.ref (w.2.2 138)), some (.int c), none] (Nat.le_of_ble_eq_true rfl) rfl (fun g hg F X => ?_)
  subst hg
  refine z_aload_n F dX8_has_0 rfl ?_
  refine zg_X8_wrong F (by with_reducible assumption) fl_X8_127 dX8_has_1 ?_
  try simp only [h12]
  refine z_if_ne (tgt := 19) F dX8_has_4 (by decide) (fun h_4 => ?_) (fun h_4 => absurd h_4 (by decide))
  refine z_iconst (v := 0) F dX8_has_19 (by decide) ?_
  refine z_istore_n (lv' := [_, _, _]) F dX8_has_20 (by decide) rfl rfl ?_
  refine z_aload_n F dX8_has_21 rfl ?_
  refine z_dup F dX8_has_22 rfl ?_
  refine zg_X8_at F (by with_reducible assumption) fl_X8_124 dX8_has_23 ?_
  try simp only [h12]
  refine z_iload_n F dX8_has_26 rfl ?_
  refine z_if_eq (tgt := 34) F dX8_has_27 (by decide) (fun h_27 => ?_) (fun h_27 => absurd h_27 (by decide))
  refine z_iconst (v := 0) F dX8_has_34 (by decide) ?_
  refine z_iadd F dX8_has_35 ?_
  refine zp_X8_at F (by with_reducible assumption) fl_X8_124 dX8_has_36 ?_
  refine z_iload_n F dX8_has_39 rfl ?_
  refine z_zret F X dX8_has_40 (by decide) ?_
  exact ⟨rfl, rfl⟩
theorem c_X8_number0 {l : Launch} {w : zE} (J : zJ w) {M : zM} {c : Int32} (h12 : M.1 138 12 = 1) : zCi l w yX8_number cX8_number 4 (some .int) 1 [.ref (w.2.2 138), .int c] M (fun r M2 => M2 = zs M 138 12 1 ∧ r = 0) := by
  have hk : zk 138 = 8 := by decide
  refine zCi_of J zm_X8_number [some (.ref (w.2.2 138)), some (.int c), none, none] (Nat.le_of_ble_eq_true rfl) rfl (fun g hg F X => ?_)
  subst hg
  refine z_aload_n F dX8_number_0 rfl ?_
  refine zg_X8_wrong F (by with_reducible assumption) fl_X8_127 dX8_number_1 ?_
  try simp only [h12]
  refine z_if_ne (tgt := 24) F dX8_number_4 (by decide) (fun h_4 => ?_) (fun h_4 => absurd h_4 (by decide))
  refine z_aload_n F dX8_number_24 rfl ?_
  refine z_iconst (v := 1) F dX8_number_25 (by decide) ?_
  refine zp_X8_wrong F (by with_reducible assumption) fl_X8_127 (by decide) (by decide) dX8_number_26 ?_
  refine z_iconst (v := 0) F dX8_number_29 (by decide) ?_
  refine z_iret F X dX8_number_30 ?_
  exact ⟨rfl, rfl⟩
theorem c_X8_readThing0 {l : Launch} {w : zE} (J : zJ w) {M : zM} (h10 : M.1 138 10 = 0) (h11 : M.1 138 11 = 0) (h12 : M.1 138 12 = 0) (h13 : M.1 138 13 = 0) : zCv l w yX8_readThing cX8_readThing 3 2 [.ref (w.2.2 138)] M (fun M2 => M2.1 138 11 = 0 ∧ M2.1 138 12 = 1 ∧ M2.1 138 13 = 1) := by
  have hk : zk 138 = 8 := by decide
  obtain ⟨hz1, hz2, hz3, hz4, hz5, hz6, hz7, hz8, hz9, hz10, hz11, hz12, hz13, hz14, hz15⟩ := zn8 (show 138 = 138 from rfl)
  refine zCv_of J zm_X8_readThing [some (.ref (w.2.2 138)), none, none] (Nat.le_of_ble_eq_true rfl) rfl (fun g hg F X => ?_)
  subst hg
  refine z_iconst (v := 4) F dX8_readThing_0 (by decide) ?_
  refine z_aload_n F dX8_readThing_1 rfl ?_
  refine zg_X8_manyThings F (by with_reducible assumption) fl_X8_139 dX8_readThing_2 ?_
  try simp +decide only [zs_g, if_true, if_false, h10, h11, h12, h13]
  refine z_imul F dX8_readThing_5 ?_
  refine z_istore_n (lv' := [_, _, _]) F dX8_readThing_6 (by decide) rfl rfl ?_
  refine z_aload_n F dX8_readThing_7 rfl ?_
  refine zg_X8_wrong F (by with_reducible assumption) fl_X8_127 dX8_readThing_8 ?_
  try simp +decide only [zs_g, if_true, if_false, h10, h11, h12, h13]
  refine z_if_eq (tgt := 18) F dX8_readThing_11 (by decide) (fun h_11 => ?_) (fun h_11 => absurd h_11 (by decide))
  refine z_aload_n F dX8_readThing_18 rfl ?_
  refine z_callVi F (c_X8_here0 J (by simp +decide only [zs_g, if_true, if_false, h10]) (by simp +decide only [zs_g, if_true, if_false, h11])) zm_X8_here zv_X8_here ml_X8_131 (by with_reducible assumption) (by decide) rfl rfl rfl (Nat.le_of_ble_eq_true rfl) dX8_readThing_19 (by omega) (fun r_19 M_19 h_19 => ?_)
  obtain ⟨e_19, rfl⟩ := h_19
  replace e_19 := Eq.symm e_19
  subst e_19
  refine z_istore_n (lv' := [_, _, _]) F dX8_readThing_22 (by decide) rfl rfl ?_
  refine z_aload_n F dX8_readThing_23 rfl ?_
  refine zg_X8_readThings F (by with_reducible assumption) fl_X8_22 dX8_readThing_24 (fun hk_24 => ?_)
  refine z_iload_n F dX8_readThing_27 rfl ?_
  refine z_iload_n F dX8_readThing_28 rfl ?_
  refine z_bipush (v := 112) F dX8_readThing_29 (by decide) ?_
  refine z_ic_ne (tgt := 38) F dX8_readThing_31 (by decide) (fun h_31 => ?_) (fun h_31 => absurd h_31 (by decide))
  refine z_iload_n F dX8_readThing_38 rfl ?_
  refine z_bipush (v := 98) F dX8_readThing_39 (by decide) ?_
  refine z_ic_ne (tgt := 48) F dX8_readThing_41 (by decide) (fun h_41 => ?_) (fun h_41 => absurd h_41 (by decide))
  refine z_iload_n F dX8_readThing_48 rfl ?_
  refine z_bipush (v := 117) F dX8_readThing_49 (by decide) ?_
  refine z_ic_ne (tgt := 58) F dX8_readThing_51 (by decide) (fun h_51 => ?_) (fun h_51 => absurd h_51 (by decide))
  refine z_iconst (v := 3) F dX8_readThing_58 (by decide) ?_
  refine z_iast10n (q := 0) F (by with_reducible assumption) (by decide) (by rw [hz5]; omega) dX8_readThing_59 ?_
  refine z_aload_n F dX8_readThing_60 rfl ?_
  refine z_aload_n F dX8_readThing_61 rfl ?_
  refine zg_X8_wrong F (by with_reducible assumption) fl_X8_127 dX8_readThing_62 ?_
  try simp +decide only [zs_g, if_true, if_false, h10, h11, h12, h13]
  refine z_if_ne (tgt := 92) F dX8_readThing_65 (by decide) (fun h_65 => absurd h_65 (by decide)) (fun h_65 => ?_)
  refine z_iload_n F dX8_readThing_68 rfl ?_
  refine z_bipush (v := 112) F dX8_readThing_69 (by decide) ?_
  refine z_ic_eq (tgt := 96) F dX8_readThing_71 (by decide) (fun h_71 => absurd h_71 (by decide)) (fun h_71 => ?_)
  refine z_iload_n F dX8_readThing_74 rfl ?_
  refine z_bipush (v := 98) F dX8_readThing_75 (by decide) ?_
  refine z_ic_eq (tgt := 96) F dX8_readThing_77 (by decide) (fun h_77 => absurd h_77 (by decide)) (fun h_77 => ?_)
  refine z_iload_n F dX8_readThing_80 rfl ?_
  refine z_bipush (v := 117) F dX8_readThing_81 (by decide) ?_
  refine z_ic_eq (tgt := 96) F dX8_readThing_83 (by decide) (fun h_83 => absurd h_83 (by decide)) (fun h_83 => ?_)
  refine z_iload_n F dX8_readThing_86 rfl ?_
  refine z_bipush (v := 109) F dX8_readThing_87 (by decide) ?_
  refine z_ic_eq (tgt := 96) F dX8_readThing_89 (by decide) (fun h_89 => absurd h_89 (by decide)) (fun h_89 => ?_)
  refine z_iconst (v := 1) F dX8_readThing_92 (by decide) ?_
  refine z_goto (tgt := 97) F dX8_readThing_93 (by decide) ?_
  refine zp_X8_wrong F (by with_reducible assumption) fl_X8_127 (by decide) (by decide) dX8_readThing_97 ?_
  refine z_aload_n F dX8_readThing_100 rfl ?_
  refine z_dup F dX8_readThing_101 rfl ?_
  refine zg_X8_at F (by with_reducible assumption) fl_X8_124 dX8_readThing_102 ?_
  try simp +decide only [zs_g, if_true, if_false, h10, h11, h12, h13]
  refine z_aload_n F dX8_readThing_105 rfl ?_
  refine zg_X8_wrong F (by with_reducible assumption) fl_X8_127 dX8_readThing_106 ?_
  try simp +decide only [zs_g, if_true, if_false, h10, h11, h12, h13]
  refine z_if_eq (tgt := 116) F dX8_readThing_109 (by decide) (fun h_109 => absurd h_109 (by decide)) (fun h_109 => ?_)
  refine z_iconst (v := 0) F dX8_readThing_112 (by decide) ?_
  refine z_goto (tgt := 117) F dX8_readThing_113 (by decide) ?_
  refine z_iadd F dX8_readThing_117 ?_
  refine zp_X8_at F (by with_reducible assumption) fl_X8_124 dX8_readThing_118 ?_
  refine z_aload_n F dX8_readThing_121 rfl ?_
  refine zg_X8_readThings F (by with_reducible assumption) fl_X8_22 dX8_readThing_122 (fun hk_122 => ?_)
  refine z_iload_n F dX8_readThing_125 rfl ?_
  refine z_iconst (v := 1) F dX8_readThing_126 (by decide) ?_
  refine z_iadd F dX8_readThing_127 ?_
  refine z_aload_n F dX8_readThing_128 rfl ?_
  refine z_bipush (v := 99) F dX8_readThing_129 (by decide) ?_
  refine z_callVi F (c_X8_number0 J (by simp +decide only [zs_g, if_true, if_false])) zm_X8_number zv_X8_number ml_X8_142 (by with_reducible assumption) (by decide) rfl rfl rfl (Nat.le_of_ble_eq_true rfl) dX8_readThing_131 (by omega) (fun r_131 M_131 h_131 => ?_)
  obtain ⟨e_131, rfl⟩ := h_131
  replace e_131 := Eq.symm e_131
  subst e_131
  refine z_iast10n (q := 1) F (by with_reducible assumption) (by decide) (by rw [hz5]; omega) dX8_readThing_134 ?_
  refine z_aload_n F dX8_readThing_135 rfl ?_
  refine zg_X8_readThings F (by with_reducible assumption) fl_X8_22 dX8_readThing_136 (fun hk_136 => ?_)
  refine z_iload_n F dX8_readThing_139 rfl ?_
  refine z_iconst (v := 2) F dX8_readThing_140 (by decide) ?_
  refine z_iadd F dX8_readThing_141 ?_
  refine z_aload_n F dX8_readThing_142 rfl ?_
  refine z_bipush (v := 108) F dX8_readThing_143 (by decide) ?_
  refine z_callVi F (c_X8_has0 J (by simp +decide only [zs_g, if_true, if_false])) zm_X8_has zv_X8_has ml_X8_145 (by with_reducible assumption) (by decide) rfl rfl rfl (Nat.le_of_ble_eq_true rfl) dX8_readThing_145 (by omega) (fun r_145 M_145 h_145 => ?_)
  obtain ⟨e_145, rfl⟩ := h_145
  replace e_145 := Eq.symm e_145
  subst e_145
  refine z_if_eq (tgt := 160) F dX8_readThing_148 (by decide) (fun h_148 => ?_) (fun h_148 => absurd h_148 (by decide))
  refine z_iconst (v := 0) F dX8_readThing_160 (by decide) ?_
  refine z_iast10n (q := 2) F (by with_reducible assumption) (by decide) (by rw [hz5]; omega) dX8_readThing_161 ?_
  refine z_aload_n F dX8_readThing_162 rfl ?_
  refine zg_X8_readThings F (by with_reducible assumption) fl_X8_22 dX8_readThing_163 (fun hk_163 => ?_)
  refine z_iload_n F dX8_readThing_166 rfl ?_
  refine z_iconst (v := 3) F dX8_readThing_167 (by decide) ?_
  refine z_iadd F dX8_readThing_168 ?_
  refine z_aload_n F dX8_readThing_169 rfl ?_
  refine z_bipush (v := 99) F dX8_readThing_170 (by decide) ?_
  refine z_callVi F (c_X8_has0 J (by simp +decide only [zs_g, if_true, if_false])) zm_X8_has zv_X8_has ml_X8_145 (by with_reducible assumption) (by decide) rfl rfl rfl (Nat.le_of_ble_eq_true rfl) dX8_readThing_172 (by omega) (fun r_172 M_172 h_172 => ?_)
  obtain ⟨e_172, rfl⟩ := h_172
  replace e_172 := Eq.symm e_172
  subst e_172
  refine z_if_eq (tgt := 187) F dX8_readThing_175 (by decide) (fun h_175 => ?_) (fun h_175 => absurd h_175 (by decide))
  refine z_iconst (v := 0) F dX8_readThing_187 (by decide) ?_
  refine z_iast10n (q := 3) F (by with_reducible assumption) (by decide) (by rw [hz5]; omega) dX8_readThing_188 ?_
  refine z_aload_n F dX8_readThing_189 rfl ?_
  refine z_dup F dX8_readThing_190 rfl ?_
  refine zg_X8_manyThings F (by with_reducible assumption) fl_X8_139 dX8_readThing_191 ?_
  try simp +decide only [zs_g, if_true, if_false, h10, h11, h12, h13]
  refine z_iconst (v := 1) F dX8_readThing_194 (by decide) ?_
  refine z_iadd F dX8_readThing_195 ?_
  refine zp_X8_manyThings F (by with_reducible assumption) fl_X8_139 dX8_readThing_196 ?_
  refine z_vret F X dX8_readThing_199 ?_
  refine ⟨?_, ?_, ?_⟩ <;> simp +decide only [zs_g, if_true, if_false, h11, h13]
theorem c_X8_road0 {l : Launch} {w : zE} (J : zJ w) {M : zM} (h10 : M.1 138 10 = 0) : zCi l w yX8_road cX8_road 3 (some .int) 3 [.ref (w.2.2 138)] M (fun r _ => r = -20) := by
  have hk : zk 138 = 8 := by decide
  refine zCi_of J zm_X8_road [some (.ref (w.2.2 138)), none, none] (Nat.le_of_ble_eq_true rfl) rfl (fun g hg F X => ?_)
  subst hg
  refine z_aload_n F dX8_road_0 rfl ?_
  refine z_iconst (v := 0) F dX8_road_1 (by decide) ?_
  refine zp_X8_at F (by with_reducible assumption) fl_X8_124 dX8_road_2 ?_
  refine z_aload_n F dX8_road_5 rfl ?_
  refine z_iconst (v := 0) F dX8_road_6 (by decide) ?_
  refine zp_X8_wrong F (by with_reducible assumption) fl_X8_127 (by decide) (by decide) dX8_road_7 ?_
  refine z_aload_n F dX8_road_10 rfl ?_
  refine z_iconst (v := 0) F dX8_road_11 (by decide) ?_
  refine zp_X8_manyThings F (by with_reducible assumption) fl_X8_139 dX8_road_12 ?_
  refine z_aload_n F dX8_road_15 rfl ?_
  refine z_iconst (v := 0) F dX8_road_16 (by decide) ?_
  refine zp_X8_manyPeople F (by with_reducible assumption) fl_X8_148 dX8_road_17 ?_
  refine z_aload_n F dX8_road_20 rfl ?_
  refine z_bipush (v := (-4)) F dX8_road_21 (by decide) ?_
  refine zp_X8_his F (by with_reducible assumption) fl_X8_154 dX8_road_23 ?_
  refine z_iconst (v := 1) F dX8_road_26 (by decide) ?_
  refine z_istore_n (lv' := [_, _, _]) F dX8_road_27 (by decide) rfl rfl ?_
  refine z_iload_n F dX8_road_28 rfl ?_
  refine z_if_eq (tgt := 63) F dX8_road_29 (by decide) (fun h_29 => absurd h_29 (by decide)) (fun h_29 => ?_)
  refine z_aload_n F dX8_road_32 rfl ?_
  refine z_callVv F (c_X8_readThing0 J (by simp +decide only [zs_g, if_true, if_false, h10]) (by simp +decide only [zs_g, if_true, if_false]) (by simp +decide only [zs_g, if_true, if_false]) (by simp +decide only [zs_g, if_true, if_false])) zm_X8_readThing zv_X8_readThing ml_X8_157 (by with_reducible assumption) (by decide) rfl rfl rfl (Nat.le_of_ble_eq_true rfl) dX8_road_33 (by omega) (fun M_33 h_33 => ?_)
  have e_33 := h_33
  refine z_aload_n F dX8_road_36 rfl ?_
  refine zg_X8_manyThings F (by with_reducible assumption) fl_X8_139 dX8_road_37 ?_
  try simp +decide only [zs_g, if_true, if_false, e_33.1, e_33.2.1, e_33.2.2]
  refine z_bipush (v := 10) F dX8_road_40 (by decide) ?_
  refine z_ic_ge (tgt := 58) F dX8_road_42 (by decide) (fun h_42 => absurd h_42 (by decide)) (fun h_42 => ?_)
  refine z_aload_n F dX8_road_45 rfl ?_
  refine z_bipush (v := 44) F dX8_road_46 (by decide) ?_
  refine z_callVi F (c_X8_has0 J (by simp +decide only [zs_g, if_true, if_false, e_33.2.1])) zm_X8_has zv_X8_has ml_X8_145 (by with_reducible assumption) (by decide) rfl rfl rfl (Nat.le_of_ble_eq_true rfl) dX8_road_48 (by omega) (fun r_48 M_48 h_48 => ?_)
  obtain ⟨e_48, rfl⟩ := h_48
  replace e_48 := Eq.symm e_48
  subst e_48
  refine z_if_eq (tgt := 58) F dX8_road_51 (by decide) (fun h_51 => ?_) (fun h_51 => absurd h_51 (by decide))
  refine z_iconst (v := 0) F dX8_road_58 (by decide) ?_
  refine z_istore_n (lv' := [_, _, _]) F dX8_road_59 (by decide) rfl rfl ?_
  refine z_goto (tgt := 28) F dX8_road_60 (by decide) ?_
  refine z_iload_n F dX8_road_28 rfl ?_
  refine z_if_eq (tgt := 63) F dX8_road_29 (by decide) (fun h_29x => ?_) (fun h_29x => absurd h_29x (by decide))
  refine z_aload_n F dX8_road_63 rfl ?_
  refine z_bipush (v := 59) F dX8_road_64 (by decide) ?_
  refine z_callVi F (c_X8_has0 J (by simp +decide only [zs_g, if_true, if_false, e_33.2.1])) zm_X8_has zv_X8_has ml_X8_145 (by with_reducible assumption) (by decide) rfl rfl rfl (Nat.le_of_ble_eq_true rfl) dX8_road_66 (by omega) (fun r_66 M_66 h_66 => ?_)
  obtain ⟨e_66, rfl⟩ := h_66
  replace e_66 := Eq.symm e_66
  subst e_66
  refine z_if_eq (tgt := 181) F dX8_road_69 (by decide) (fun h_69 => ?_) (fun h_69 => absurd h_69 (by decide))
  refine z_aload_n F dX8_road_181 rfl ?_
  refine z_aload_n F dX8_road_182 rfl ?_
  refine zg_X8_wrong F (by with_reducible assumption) fl_X8_127 dX8_road_183 ?_
  try simp +decide only [zs_g, if_true, if_false, e_33.1, e_33.2.1, e_33.2.2]
  refine z_if_ne (tgt := 196) F dX8_road_186 (by decide) (fun h_186 => ?_) (fun h_186 => absurd h_186 (by decide))
  refine z_iconst (v := 1) F dX8_road_196 (by decide) ?_
  refine z_goto (tgt := 201) F dX8_road_197 (by decide) ?_
  refine zp_X8_wrong F (by with_reducible assumption) fl_X8_127 (by decide) (by decide) dX8_road_201 ?_
  refine z_aload_n F dX8_road_204 rfl ?_
  refine z_iconst (v := 0) F dX8_road_205 (by decide) ?_
  refine zp_X8_taped F (by with_reducible assumption) fl_X8_121 dX8_road_206 ?_
  refine z_aload_n F dX8_road_209 rfl ?_
  refine zg_X8_wrong F (by with_reducible assumption) fl_X8_127 dX8_road_210 ?_
  try simp +decide only [zs_g, if_true, if_false, e_33.1, e_33.2.1, e_33.2.2]
  refine z_if_eq (tgt := 224) F dX8_road_213 (by decide) (fun h_213 => absurd h_213 (by decide)) (fun h_213 => ?_)
  refine z_bipush (v := (-20)) F dX8_road_216 (by decide) ?_
  refine z_aload_n F dX8_road_218 rfl ?_
  refine zg_X8_at F (by with_reducible assumption) fl_X8_124 dX8_road_219 ?_
  try simp +decide only [zs_g, if_true, if_false, e_33.1, e_33.2.1, e_33.2.2]
  refine z_isub F dX8_road_222 ?_
  refine z_iret F X dX8_road_223 ?_
  decide
end
section
/-! the reference's items, image and what is restored, in general -/
theorem lN_big {n : Nat} (h : n < 2 ^ 63) : (lN n).toInt = (n : Int) := by
  unfold lN
  exact Int64.toInt_ofNat_of_lt h
theorem why_ok {A B ln i : Int32} {m L : Nat} (hm : m ≤ 32) (hB : B = nI L) (hL : L ≤ 16) (h : ¬ whyF A B ln i (nI m) < 0) : ¬ A < 0 ∧ A = ln ∧ whyF A B ln i (nI m) = 0 ∧ ∃ a, i = nI a ∧ a + m ≤ L := by
  unfold whyF at *
  by_cases h1 : A < 0
  · rw [if_pos h1] at h; exact absurd (by decide) h
  · rw [if_neg h1] at h ⊢
    by_cases h2 : A = ln
    · rw [if_neg (fun q => q h2)] at h ⊢
      by_cases h3 : i < 0 ∨ B.toInt64 < i.toInt64 + (nI m).toInt64
      · rw [if_pos h3] at h; exact absurd (by decide) h
      · rw [if_neg h3]
        obtain ⟨a, ha, rfl⟩ := nI_of (fun q => h3 (Or.inl q))
        refine ⟨h1, h2, rfl, a, rfl, ?_⟩
        have h4 : ¬ B.toInt64 < (nI a).toInt64 + (nI m).toInt64 := fun q => h3 (Or.inr q)
        rw [hB, nI_l (by omega), nI_l (by omega), nI_l (by omega), lN_add, Int64.lt_iff_toInt_lt, lN_big (by omega), lN_big (by omega)] at h4
        omega
    · rw [if_pos h2] at h; exact absurd (by decide) h
theorem c_X8_puts {l : Launch} {w : zE} (J : zJ w) {M : zM} {o j a : Nat} {v : Int64} (hk : zk o = 8) (ho : o = 138) (hj : j < 4) (ha : a < 16) : zCv l w yX8_puts cX8_puts 6 0 [.ref (w.2.2 o), .int (nI j), .int (nI a), .long v] M (fun M2 => M2 = zy M (o + 14) (16 * j + a) (putF (M.1 (o + 12) j) v)) := by
  obtain ⟨hz1, hz2, hz3, hz4, hz5, hz6, hz7, hz8, hz9, hz10, hz11, hz12, hz13, hz14, hz15⟩ := zn8 ho
  refine zCv_of J zm_X8_puts [some (.ref (w.2.2 o)), some (.int (nI j)), some (.int (nI a)), some (.long v), none, none] (Nat.le_of_ble_eq_true rfl) rfl (fun g hg F X => ?_)
  subst hg
  refine z_aload_n F dX8_puts_0 rfl ?_
  refine zg_X8_lanes F (by with_reducible assumption) fl_X8_43 dX8_puts_1 (fun hk_1 => ?_)
  refine z_iload_n F dX8_puts_4 rfl ?_
  refine z_iald10n (q := j) F (by with_reducible assumption) (by first | with_reducible rfl | (simp only [n4, n2, n3, n5, n14, n16, na1, na2, na3, nI_add, nI_1, nI_pred]; done) | (simp only [n4, n2, n3, n5, n14, n16, na1, na2, na3, nI_add, nI_1, nI_pred, Nat.add_assoc, Nat.add_comm, Nat.add_left_comm]; done)) (by rw [hz12]; omega) dX8_puts_5 ?_
  refine z_istore (lv' := [_, _, _, _, _, _]) F dX8_puts_6 (by decide) rfl rfl ?_
  refine z_aload_n F dX8_puts_8 rfl ?_
  refine zg_X8_items F (by with_reducible assumption) fl_X8_49 dX8_puts_9 (fun hk_9 => ?_)
  refine z_bipush (v := 16) F dX8_puts_12 (by decide) ?_
  refine z_iload_n F dX8_puts_14 rfl ?_
  refine z_imul F dX8_puts_15 ?_
  refine z_iload_n F dX8_puts_16 rfl ?_
  refine z_iadd F dX8_puts_17 ?_
  refine z_iload F dX8_puts_18 rfl ?_
  refine z_if_ne (tgt := 30) F dX8_puts_20 (by decide) (fun h_20 => ?_) (fun h_20 => ?_)
  · refine z_iload F dX8_puts_30 rfl ?_
    refine z_iconst (v := 1) F dX8_puts_32 (by decide) ?_
    refine z_ic_ne (tgt := 43) F dX8_puts_33 (by decide) (fun h_33 => ?_) (fun h_33 => ?_)
    · refine z_iload F dX8_puts_43 rfl ?_
      refine z_iconst (v := 2) F dX8_puts_45 (by decide) ?_
      refine z_ic_ne (tgt := 55) F dX8_puts_46 (by decide) (fun h_46 => ?_) (fun h_46 => ?_)
      · refine z_lload_n F dX8_puts_55 rfl ?_
        refine z_last14n (q := ((16 * j) + a)) F (by with_reducible assumption) (by first | with_reducible rfl | (simp only [n4, n2, n3, n5, n14, n16, na1, na2, na3, nI_add, nI_1, nI_pred]; done) | (simp only [n4, n2, n3, n5, n14, n16, na1, na2, na3, nI_add, nI_1, nI_pred, Nat.add_assoc, Nat.add_comm, Nat.add_left_comm]; done)) (by rw [hz14]; omega) dX8_puts_56 ?_
        refine z_vret F X dX8_puts_57 ?_
        refine congrArg (zy M (o + 14) (16 * j + a)) ?_
        unfold putF
        simp_all
      · refine z_lload_n F dX8_puts_49 rfl ?_
        refine z_l2i F dX8_puts_50 ?_
        refine z_i2l F dX8_puts_51 ?_
        refine z_goto (tgt := 56) F dX8_puts_52 (by decide) ?_
        refine z_last14n (q := ((16 * j) + a)) F (by with_reducible assumption) (by first | with_reducible rfl | (simp only [n4, n2, n3, n5, n14, n16, na1, na2, na3, nI_add, nI_1, nI_pred]; done) | (simp only [n4, n2, n3, n5, n14, n16, na1, na2, na3, nI_add, nI_1, nI_pred, Nat.add_assoc, Nat.add_comm, Nat.add_left_comm]; done)) (by rw [hz14]; omega) dX8_puts_56 ?_
        refine z_vret F X dX8_puts_57 ?_
        refine congrArg (zy M (o + 14) (16 * j + a)) ?_
        unfold putF
        simp_all
    · refine z_lload_n F dX8_puts_36 rfl ?_
      refine z_l2i F dX8_puts_37 ?_
      refine z_i2s F dX8_puts_38 ?_
      refine z_i2l F dX8_puts_39 ?_
      refine z_goto (tgt := 56) F dX8_puts_40 (by decide) ?_
      refine z_last14n (q := ((16 * j) + a)) F (by with_reducible assumption) (by first | with_reducible rfl | (simp only [n4, n2, n3, n5, n14, n16, na1, na2, na3, nI_add, nI_1, nI_pred]; done) | (simp only [n4, n2, n3, n5, n14, n16, na1, na2, na3, nI_add, nI_1, nI_pred, Nat.add_assoc, Nat.add_comm, Nat.add_left_comm]; done)) (by rw [hz14]; omega) dX8_puts_56 ?_
      refine z_vret F X dX8_puts_57 ?_
      refine congrArg (zy M (o + 14) (16 * j + a)) ?_
      unfold putF
      simp_all
  · refine z_lload_n F dX8_puts_23 rfl ?_
    refine z_l2i F dX8_puts_24 ?_
    refine z_i2b F dX8_puts_25 ?_
    refine z_i2l F dX8_puts_26 ?_
    refine z_goto (tgt := 56) F dX8_puts_27 (by decide) ?_
    refine z_last14n (q := ((16 * j) + a)) F (by with_reducible assumption) (by first | with_reducible rfl | (simp only [n4, n2, n3, n5, n14, n16, na1, na2, na3, nI_add, nI_1, nI_pred]; done) | (simp only [n4, n2, n3, n5, n14, n16, na1, na2, na3, nI_add, nI_1, nI_pred, Nat.add_assoc, Nat.add_comm, Nat.add_left_comm]; done)) (by rw [hz14]; omega) dX8_puts_56 ?_
    refine z_vret F X dX8_puts_57 ?_
    refine congrArg (zy M (o + 14) (16 * j + a)) ?_
    unfold putF
    simp_all
def szOK (f : zF1) : Prop := ∀ q, q < 4 → ∃ L, L ≤ 16 ∧ f q = nI L
theorem c_X8_item {l : Launch} {w : zE} (J : zJ w) {M : zM} {o : Nat} {x ln i : Int32} {v : Int64} (hk : zk o = 8) (ho : o = 138) (hS : szOK (M.1 (o + 13))) : zCi l w yX8_item cX8_item 7 (some .int) 2 [.ref (w.2.2 o), .int x, .int ln, .int i, .long v] M (fun r M2 => (((x < 0 ∨ 3 < x) ∨ (ln < 0 ∨ 3 < ln)) ∧ r = -1 ∧ M2 = M) ∨ (¬ ((x < 0 ∨ 3 < x) ∨ (ln < 0 ∨ 3 < ln)) ∧ ∃ j, j < 4 ∧ x = nI j ∧ ((whyF (M.1 (o + 12) j) (M.1 (o + 13) j) ln i 1 < 0 ∧ r = whyF (M.1 (o + 12) j) (M.1 (o + 13) j) ln i 1 ∧ M2 = M) ∨ (¬ whyF (M.1 (o + 12) j) (M.1 (o + 13) j) ln i 1 < 0 ∧ r = 1 ∧ ∃ a, i = nI a ∧ a < 16 ∧ M2 = zy M (o + 14) (16 * j + a) (putF (M.1 (o + 12) j) v))))) := by
  obtain ⟨hz1, hz2, hz3, hz4, hz5, hz6, hz7, hz8, hz9, hz10, hz11, hz12, hz13, hz14, hz15⟩ := zn8 ho
  refine zCi_of J zm_X8_item [some (.ref (w.2.2 o)), some (.int x), some (.int ln), some (.int i), some (.long v), none, none] (Nat.le_of_ble_eq_true rfl) rfl (fun g hg F X => ?_)
  subst hg
  refine z_iload_n F dX8_item_0 rfl ?_
  refine z_callSi F (c_X8_isSheet J) zm_X8_isSheet zst_X8_isSheet ml_X8_227 rfl rfl (Nat.le_of_ble_eq_true rfl) dX8_item_1 (by omega) (fun r_1 M_1 h_1 => ?_)
  obtain ⟨e_1, rfl⟩ := h_1
  replace e_1 := Eq.symm e_1
  subst e_1
  refine z_if_eq (tgt := 14) F dX8_item_4 (by decide) (fun h_4 => ?_) (fun h_4 => ?_)
  · replace h_4 := bI_0.mp h_4
    refine z_iconst (v := (-1)) F dX8_item_14 (by decide) ?_
    refine z_iret F X dX8_item_15 ?_
    exact Or.inl ⟨Or.inl (Classical.not_not.mp h_4), rfl, rfl⟩
  · replace h_4 := bI_1.mp h_4
    refine z_iload_n F dX8_item_7 rfl ?_
    refine z_callSi F (c_X8_isLane J) zm_X8_isLane zst_X8_isLane ml_X8_230 rfl rfl (Nat.le_of_ble_eq_true rfl) dX8_item_8 (by omega) (fun r_8 M_8 h_8 => ?_)
    obtain ⟨e_8, rfl⟩ := h_8
    replace e_8 := Eq.symm e_8
    subst e_8
    refine z_if_ne (tgt := 16) F dX8_item_11 (by decide) (fun h_11 => ?_) (fun h_11 => ?_)
    · replace h_11 := bI_1.mp h_11
      obtain ⟨j, hj, rfl⟩ := s4_in h_4
      refine z_aload_n F dX8_item_16 rfl ?_
      refine z_iload_n F dX8_item_17 rfl ?_
      refine z_iload_n F dX8_item_18 rfl ?_
      refine z_iload_n F dX8_item_19 rfl ?_
      refine z_iconst (v := 1) F dX8_item_20 (by decide) ?_
      refine z_callVi F (c_X8_why J hk ho hj) zm_X8_why zv_X8_why ml_X8_235 (by with_reducible assumption) (by decide) rfl rfl rfl (Nat.le_of_ble_eq_true rfl) dX8_item_21 (by omega) (fun r_21 M_21 h_21 => ?_)
      obtain ⟨e_21, rfl⟩ := h_21
      replace e_21 := Eq.symm e_21
      subst e_21
      refine z_istore (lv' := [_, _, _, _, _, _, _]) F dX8_item_24 (by decide) rfl rfl ?_
      refine z_iload F dX8_item_26 rfl ?_
      refine z_if_ge (tgt := 34) F dX8_item_28 (by decide) (fun h_28 => ?_) (fun h_28 => ?_)
      · obtain ⟨L, hL, hB⟩ := hS j hj
        obtain ⟨-, -, -, a, rfl, haL⟩ := why_ok (m := 1) (by decide) hB hL (nlt h_28)
        have ha : a < 16 := by omega
        refine z_aload_n F dX8_item_34 rfl ?_
        refine z_iload_n F dX8_item_35 rfl ?_
        refine z_iload_n F dX8_item_36 rfl ?_
        refine z_lload F dX8_item_37 rfl ?_
        refine z_callVv F (c_X8_puts J hk ho hj ha) zm_X8_puts zv_X8_puts ml_X8_239 (by with_reducible assumption) (by decide) rfl rfl rfl (Nat.le_of_ble_eq_true rfl) dX8_item_39 (by omega) (fun M_39 h_39 => ?_)
        replace h_39 := Eq.symm h_39
        subst h_39
        refine z_iconst (v := 1) F dX8_item_42 (by decide) ?_
        refine z_iret F X dX8_item_43 ?_
        exact Or.inr ⟨fun q => q.elim h_4 h_11, j, hj, rfl, Or.inr ⟨nlt h_28, rfl, a, rfl, ha, rfl⟩⟩
      · refine z_iload F dX8_item_31 rfl ?_
        refine z_iret F X dX8_item_33 ?_
        exact Or.inr ⟨fun q => q.elim h_4 h_11, j, hj, rfl, Or.inl ⟨h_28, rfl, rfl⟩⟩
    · replace h_11 := bI_0.mp h_11
      refine z_iconst (v := (-1)) F dX8_item_14 (by decide) ?_
      refine z_iret F X dX8_item_15 ?_
      exact Or.inl ⟨Or.inr (Classical.not_not.mp h_11), rfl, rfl⟩
/-- what comes back out of the image -/
def gvL (f : zF1) (k0 : Nat) (g : zF1) : Nat → zF1
  | 0 => g
  | n + 1 => va_up (gvL f k0 g n) n (f (k0 + n))
theorem c_X8_gives {l : Launch} {w : zE} (J : zJ w) {M : zM} {o b k0 : Nat} (hk : zk o = 8) (ho : o = 138) (hb : zk b = 10) (hne : b ≠ o + 11) (h0 : k0 + zn b ≤ 187) : zCi l w yX8_gives cX8_gives 4 (some .int) 0 [.ref (w.2.2 o), .int (nI k0), .ref (w.2.2 b)] M (fun r M2 => r = nI (k0 + zn b) ∧ M2 = za M b (gvL (M.1 (o + 11)) k0 (M.1 b) (zn b))) := by
  obtain ⟨hz1, hz2, hz3, hz4, hz5, hz6, hz7, hz8, hz9, hz10, hz11, hz12, hz13, hz14, hz15⟩ := zn8 ho
  have hne2 : o + 11 ≠ b := fun q => hne q.symm
  refine zCi_of J zm_X8_gives [some (.ref (w.2.2 o)), some (.int (nI k0)), some (.ref (w.2.2 b)), none] (Nat.le_of_ble_eq_true rfl) rfl (fun g hg F X => ?_)
  subst hg
  have key : ∀ (r k : Nat), k + r = zn b → ZW w g 4 2 [some (.ref (w.2.2 o)), some (.int (nI k0)), some (.ref (w.2.2 b)), some (.int (nI k))] [] (za M b (gvL (M.1 (o + 11)) k0 (M.1 b) k)) := by
    intro r
    induction r with
    | zero =>
      intro k hkr
      obtain rfl : k = zn b := by omega
      refine z_iload_n F dX8_gives_2 rfl ?_
      refine z_aload_n F dX8_gives_3 rfl ?_
      refine z_alen10 F (by with_reducible assumption) dX8_gives_4 ?_
      refine z_ic_ge (tgt := 25) F dX8_gives_5 (by decide) (fun h_5 => ?_) (fun h_5 => absurd h_5 (fun q => absurd q (Int32.not_lt.mpr (Int32.le_refl _))))
      refine z_iload_n F dX8_gives_25 rfl ?_
      refine z_aload_n F dX8_gives_26 rfl ?_
      refine z_alen10 F (by with_reducible assumption) dX8_gives_27 ?_
      refine z_iadd F dX8_gives_28 ?_
      refine z_iret F X dX8_gives_29 ?_
      exact ⟨nI_add _ _, rfl⟩
    | succ r ih =>
      intro k hkr
      refine z_iload_n F dX8_gives_2 rfl ?_
      refine z_aload_n F dX8_gives_3 rfl ?_
      refine z_alen10 F (by with_reducible assumption) dX8_gives_4 ?_
      refine z_ic_ge (tgt := 25) F dX8_gives_5 (by decide) (fun h_5 => absurd h_5 (nI_ge (by omega) (by omega))) (fun h_5 => ?_)
      refine z_aload_n F dX8_gives_8 rfl ?_
      refine z_iload_n F dX8_gives_9 rfl ?_
      refine z_aload_n F dX8_gives_10 rfl ?_
      refine zg_X8_image F (by with_reducible assumption) fl_X8_40 dX8_gives_11 (fun hk_11 => ?_)
      refine z_iload_n F dX8_gives_14 rfl ?_
      refine z_iload_n F dX8_gives_15 rfl ?_
      refine z_iadd F dX8_gives_16 ?_
      refine z_iald10n (q := (k0 + k)) F (by with_reducible assumption) (by first | with_reducible rfl | (simp only [n4, n2, n3, n5, n14, n16, na1, na2, na3, nI_add, nI_1, nI_pred]; done) | (simp only [n4, n2, n3, n5, n14, n16, na1, na2, na3, nI_add, nI_1, nI_pred, Nat.add_assoc, Nat.add_comm, Nat.add_left_comm]; done)) (by rw [hz11]; omega) dX8_gives_17 ?_
      try simp only [za_off _ hne2]
      refine z_iast10n (q := k) F (by with_reducible assumption) (by first | with_reducible rfl | (simp only [n4, n2, n3, n5, n14, n16, na1, na2, na3, nI_add, nI_1, nI_pred]; done) | (simp only [n4, n2, n3, n5, n14, n16, na1, na2, na3, nI_add, nI_1, nI_pred, Nat.add_assoc, Nat.add_comm, Nat.add_left_comm]; done)) (by omega) dX8_gives_18 ?_
      refine z_iincc (c := 1) (lv' := [_, _, _, _]) F dX8_gives_19 rfl (by decide) (by decide) rfl rfl ?_
      refine z_goto (tgt := 2) F dX8_gives_22 (by decide) ?_
      rw [nI_1, zs_zaa]
      exact ih (k + 1) (by omega)
  refine z_iconst (v := 0) F dX8_gives_0 (by decide) ?_
  refine z_istore_n (lv' := [_, _, _, _]) F dX8_gives_1 (by decide) rfl rfl ?_
  have K := key (zn b) 0 (by omega)
  rw [show gvL (M.1 (o + 11)) k0 (M.1 b) 0 = M.1 b from rfl, za_self] at K
  exact K
/-- the image's row, and what it gives back -/
def imF (M : zM) (o : Nat) : zF1 := ntL (M.1 (o + 7)) 75 (ntL (M.1 (o + 3)) 61 (ntL (M.1 (o + 2)) 45 (ntL (M.1 (o + 1)) 5 (va_up (va_up (va_up (va_up (va_up (M.1 (o + 11)) 0 (M.1 o 0)) 1 (M.1 o 1)) 2 (M.1 o 5)) 3 (M.1 o 6)) 4 (M.1 o 20)) 40) 16) 14) 112
theorem c_X8_image {l : Launch} {w : zE} (J : zJ w) {M : zM} {o : Nat} (hk : zk o = 8) (ho : o = 138) : zCi l w yX8_image cX8_image 2 (some .int) 1 [.ref (w.2.2 o)] M (fun r M2 => r = 1 ∧ M2 = zs (za M (o + 11) (imF M o)) o 25 1) := by
  obtain ⟨hz1, hz2, hz3, hz4, hz5, hz6, hz7, hz8, hz9, hz10, hz11, hz12, hz13, hz14, hz15⟩ := zn8 ho
  have e0 : ∀ (f : zF1), (za M (o + 11) f).1 o = M.1 o := fun f => za_off _ (by omega)
  have e1 : ∀ (f : zF1), (za M (o + 11) f).1 (o + 1) = M.1 (o + 1) := fun f => za_off _ (by omega)
  have e2 : ∀ (f : zF1), (za M (o + 11) f).1 (o + 2) = M.1 (o + 2) := fun f => za_off _ (by omega)
  have e3 : ∀ (f : zF1), (za M (o + 11) f).1 (o + 3) = M.1 (o + 3) := fun f => za_off _ (by omega)
  have e7 : ∀ (f : zF1), (za M (o + 11) f).1 (o + 7) = M.1 (o + 7) := fun f => za_off _ (by omega)
  have eM : M = za M (o + 11) (M.1 (o + 11)) := (za_self _ _).symm
  refine zCi_of J zm_X8_image [some (.ref (w.2.2 o)), none] (Nat.le_of_ble_eq_true rfl) rfl (fun g hg F X => ?_)
  subst hg
  rw [eM]
  refine z_aload_n F dX8_image_0 rfl ?_
  refine zg_X8_image F (by with_reducible assumption) fl_X8_40 dX8_image_1 (fun hk_1 => ?_)
  refine z_iconst (v := 0) F dX8_image_4 (by decide) ?_
  refine z_aload_n F dX8_image_5 rfl ?_
  refine zg_X8_things F (by with_reducible assumption) fl_X8_69 dX8_image_6 ?_
  try simp only [zs_zaa, e0]
  refine z_iast10n (q := 0) F (by with_reducible assumption) (by decide) (by rw [hz11]; omega) dX8_image_9 ?_
  refine z_aload_n F dX8_image_10 rfl ?_
  refine zg_X8_image F (by with_reducible assumption) fl_X8_40 dX8_image_11 (fun hk_11 => ?_)
  refine z_iconst (v := 1) F dX8_image_14 (by decide) ?_
  refine z_aload_n F dX8_image_15 rfl ?_
  refine zg_X8_people F (by with_reducible assumption) fl_X8_76 dX8_image_16 ?_
  try simp only [zs_zaa, e0]
  refine z_iast10n (q := 1) F (by with_reducible assumption) (by decide) (by rw [hz11]; omega) dX8_image_19 ?_
  refine z_aload_n F dX8_image_20 rfl ?_
  refine zg_X8_image F (by with_reducible assumption) fl_X8_40 dX8_image_21 (fun hk_21 => ?_)
  refine z_iconst (v := 2) F dX8_image_24 (by decide) ?_
  refine z_aload_n F dX8_image_25 rfl ?_
  refine zg_X8_heed F (by with_reducible assumption) fl_X8_60 dX8_image_26 ?_
  try simp only [zs_zaa, e0]
  refine z_iast10n (q := 2) F (by with_reducible assumption) (by decide) (by rw [hz11]; omega) dX8_image_29 ?_
  refine z_aload_n F dX8_image_30 rfl ?_
  refine zg_X8_image F (by with_reducible assumption) fl_X8_40 dX8_image_31 (fun hk_31 => ?_)
  refine z_iconst (v := 3) F dX8_image_34 (by decide) ?_
  refine z_aload_n F dX8_image_35 rfl ?_
  refine zg_X8_well F (by with_reducible assumption) fl_X8_56 dX8_image_36 ?_
  try simp only [zs_zaa, e0]
  refine z_iast10n (q := 3) F (by with_reducible assumption) (by decide) (by rw [hz11]; omega) dX8_image_39 ?_
  refine z_aload_n F dX8_image_40 rfl ?_
  refine zg_X8_image F (by with_reducible assumption) fl_X8_40 dX8_image_41 (fun hk_41 => ?_)
  refine z_iconst (v := 4) F dX8_image_44 (by decide) ?_
  refine z_aload_n F dX8_image_45 rfl ?_
  refine zg_X8_undos F (by with_reducible assumption) fl_X8_66 dX8_image_46 ?_
  try simp only [zs_zaa, e0]
  refine z_iast10n (q := 4) F (by with_reducible assumption) (by decide) (by rw [hz11]; omega) dX8_image_49 ?_
  refine z_aload_n F dX8_image_50 rfl ?_
  refine z_aload_n F dX8_image_51 rfl ?_
  refine zg_X8_thing F (by with_reducible assumption) fl_X8_7 dX8_image_52 (fun hk_52 => ?_)
  refine z_iconst (v := 5) F dX8_image_55 (by decide) ?_
  refine z_callVi F (c_X8_notesRow J (k0 := 5) hk ho hk_52 (by omega) (by rw [hz1]; decide)) zm_X8_notesRow zv_X8_notesRow ml_X8_216 (by with_reducible assumption) (by decide) rfl rfl rfl (Nat.le_of_ble_eq_true rfl) dX8_image_56 (by omega) (fun r_56 M_56 h_56 => ?_)
  obtain ⟨e_56, f_56⟩ := h_56
  simp only [hz1, hz2, hz3, hz7] at e_56
  subst e_56
  simp only [zs_zaa, za_at, za_za, e0, e1, e2, e3, e7, hz1, hz2, hz3, hz7] at f_56
  subst f_56
  refine z_istore_n (lv' := [_, _]) F dX8_image_59 (by decide) rfl rfl ?_
  refine z_aload_n F dX8_image_60 rfl ?_
  refine z_aload_n F dX8_image_61 rfl ?_
  refine zg_X8_person F (by with_reducible assumption) fl_X8_13 dX8_image_62 (fun hk_62 => ?_)
  refine z_iload_n F dX8_image_65 rfl ?_
  refine z_callVi F (c_X8_notesRow J (k0 := 45) hk ho hk_62 (by omega) (by rw [hz2]; decide)) zm_X8_notesRow zv_X8_notesRow ml_X8_216 (by with_reducible assumption) (by decide) rfl rfl rfl (Nat.le_of_ble_eq_true rfl) dX8_image_66 (by omega) (fun r_66 M_66 h_66 => ?_)
  obtain ⟨e_66, f_66⟩ := h_66
  simp only [hz1, hz2, hz3, hz7] at e_66
  subst e_66
  simp only [zs_zaa, za_at, za_za, e0, e1, e2, e3, e7, hz1, hz2, hz3, hz7] at f_66
  subst f_66
  refine z_istore_n (lv' := [_, _]) F dX8_image_69 (by decide) rfl rfl ?_
  refine z_aload_n F dX8_image_70 rfl ?_
  refine z_aload_n F dX8_image_71 rfl ?_
  refine zg_X8_now F (by with_reducible assumption) fl_X8_16 dX8_image_72 (fun hk_72 => ?_)
  refine z_iload_n F dX8_image_75 rfl ?_
  refine z_callVi F (c_X8_notesRow J (k0 := 61) hk ho hk_72 (by omega) (by rw [hz3]; decide)) zm_X8_notesRow zv_X8_notesRow ml_X8_216 (by with_reducible assumption) (by decide) rfl rfl rfl (Nat.le_of_ble_eq_true rfl) dX8_image_76 (by omega) (fun r_76 M_76 h_76 => ?_)
  obtain ⟨e_76, f_76⟩ := h_76
  simp only [hz1, hz2, hz3, hz7] at e_76
  subst e_76
  simp only [zs_zaa, za_at, za_za, e0, e1, e2, e3, e7, hz1, hz2, hz3, hz7] at f_76
  subst f_76
  refine z_istore_n (lv' := [_, _]) F dX8_image_79 (by decide) rfl rfl ?_
  refine z_aload_n F dX8_image_80 rfl ?_
  refine z_aload_n F dX8_image_81 rfl ?_
  refine zg_X8_undone F (by with_reducible assumption) fl_X8_28 dX8_image_82 (fun hk_82 => ?_)
  refine z_iload_n F dX8_image_85 rfl ?_
  refine z_callVi F (c_X8_notesRow J (k0 := 75) hk ho hk_82 (by omega) (by rw [hz7]; decide)) zm_X8_notesRow zv_X8_notesRow ml_X8_216 (by with_reducible assumption) (by decide) rfl rfl rfl (Nat.le_of_ble_eq_true rfl) dX8_image_86 (by omega) (fun r_86 M_86 h_86 => ?_)
  obtain ⟨e_86, f_86⟩ := h_86
  simp only [hz1, hz2, hz3, hz7] at e_86
  subst e_86
  simp only [zs_zaa, za_at, za_za, e0, e1, e2, e3, e7, hz1, hz2, hz3, hz7] at f_86
  subst f_86
  refine z_pop F dX8_image_89 rfl ?_
  refine z_aload_n F dX8_image_90 rfl ?_
  refine z_iconst (v := 1) F dX8_image_91 (by decide) ?_
  refine zp_X8_isImage F (by with_reducible assumption) fl_X8_220 (by decide) (by decide) dX8_image_92 ?_
  refine z_iconst (v := 1) F dX8_image_95 (by decide) ?_
  refine z_iret F X dX8_image_96 ?_
  exact ⟨rfl, rfl⟩
end
section
/-! what is restored, and copies, in general -/
def rsF (M : zM) (o : Nat) : zM := za (za (za (za (zs (zs (zs (zs (zs M o 0 (M.1 (o + 11) 0)) o 1 (M.1 (o + 11) 1)) o 5 (M.1 (o + 11) 2)) o 6 (M.1 (o + 11) 3)) o 20 (M.1 (o + 11) 4)) (o + 1) (gvL (M.1 (o + 11)) 5 (M.1 (o + 1)) 40)) (o + 2) (gvL (M.1 (o + 11)) 45 (M.1 (o + 2)) 16)) (o + 3) (gvL (M.1 (o + 11)) 61 (M.1 (o + 3)) 14)) (o + 7) (gvL (M.1 (o + 11)) 75 (M.1 (o + 7)) 112)
theorem c_X8_restore {l : Launch} {w : zE} (J : zJ w) {M : zM} {o : Nat} (hk : zk o = 8) (ho : o = 138) : zCi l w yX8_restore cX8_restore 2 (some .int) 1 [.ref (w.2.2 o)] M (fun r M2 => (M.1 o 25 = 0 ∧ r = -4 ∧ M2 = M) ∨ (¬ M.1 o 25 = 0 ∧ r = 1 ∧ M2 = rsF M o)) := by
  obtain ⟨hz1, hz2, hz3, hz4, hz5, hz6, hz7, hz8, hz9, hz10, hz11, hz12, hz13, hz14, hz15⟩ := zn8 ho
  have s1 : ∀ (N : zM) (k : Nat) (v : Int32), (zs N o k v).1 (o + 1) = N.1 (o + 1) := fun _ _ _ => zs_off _ (by omega)
  have s2 : ∀ (N : zM) (k : Nat) (v : Int32), (zs N o k v).1 (o + 2) = N.1 (o + 2) := fun _ _ _ => zs_off _ (by omega)
  have s3 : ∀ (N : zM) (k : Nat) (v : Int32), (zs N o k v).1 (o + 3) = N.1 (o + 3) := fun _ _ _ => zs_off _ (by omega)
  have s7 : ∀ (N : zM) (k : Nat) (v : Int32), (zs N o k v).1 (o + 7) = N.1 (o + 7) := fun _ _ _ => zs_off _ (by omega)
  have s11 : ∀ (N : zM) (k : Nat) (v : Int32), (zs N o k v).1 (o + 11) = N.1 (o + 11) := fun _ _ _ => zs_off _ (by omega)
  have a12 : ∀ (N : zM) (f : zF1), (za N (o + 1) f).1 (o + 2) = N.1 (o + 2) := fun _ _ => za_off _ (by omega)
  have a13 : ∀ (N : zM) (f : zF1), (za N (o + 1) f).1 (o + 3) = N.1 (o + 3) := fun _ _ => za_off _ (by omega)
  have a17 : ∀ (N : zM) (f : zF1), (za N (o + 1) f).1 (o + 7) = N.1 (o + 7) := fun _ _ => za_off _ (by omega)
  have a111 : ∀ (N : zM) (f : zF1), (za N (o + 1) f).1 (o + 11) = N.1 (o + 11) := fun _ _ => za_off _ (by omega)
  have a23 : ∀ (N : zM) (f : zF1), (za N (o + 2) f).1 (o + 3) = N.1 (o + 3) := fun _ _ => za_off _ (by omega)
  have a27 : ∀ (N : zM) (f : zF1), (za N (o + 2) f).1 (o + 7) = N.1 (o + 7) := fun _ _ => za_off _ (by omega)
  have a211 : ∀ (N : zM) (f : zF1), (za N (o + 2) f).1 (o + 11) = N.1 (o + 11) := fun _ _ => za_off _ (by omega)
  have a37 : ∀ (N : zM) (f : zF1), (za N (o + 3) f).1 (o + 7) = N.1 (o + 7) := fun _ _ => za_off _ (by omega)
  have a311 : ∀ (N : zM) (f : zF1), (za N (o + 3) f).1 (o + 11) = N.1 (o + 11) := fun _ _ => za_off _ (by omega)
  refine zCi_of J zm_X8_restore [some (.ref (w.2.2 o)), none] (Nat.le_of_ble_eq_true rfl) rfl (fun g hg F X => ?_)
  subst hg
  refine z_aload_n F dX8_restore_0 rfl ?_
  refine zg_X8_isImage F (by with_reducible assumption) fl_X8_220 dX8_restore_1 ?_
  try simp only [s11]
  refine z_if_ne (tgt := 10) F dX8_restore_4 (by decide) (fun h_4 => ?_) (fun h_4 => ?_)
  · try simp only [s11] at h_4
    refine z_aload_n F dX8_restore_10 rfl ?_
    refine z_aload_n F dX8_restore_11 rfl ?_
    refine zg_X8_image F (by with_reducible assumption) fl_X8_40 dX8_restore_12 (fun hk_12 => ?_)
    refine z_iconst (v := 0) F dX8_restore_15 (by decide) ?_
    refine z_iald10n (q := 0) F (by with_reducible assumption) (by decide) (by rw [hz11]; omega) dX8_restore_16 ?_
    try simp only [s11]
    refine zp_X8_things F (by with_reducible assumption) fl_X8_69 dX8_restore_17 ?_
    refine z_aload_n F dX8_restore_20 rfl ?_
    refine z_aload_n F dX8_restore_21 rfl ?_
    refine zg_X8_image F (by with_reducible assumption) fl_X8_40 dX8_restore_22 (fun hk_22 => ?_)
    refine z_iconst (v := 1) F dX8_restore_25 (by decide) ?_
    refine z_iald10n (q := 1) F (by with_reducible assumption) (by decide) (by rw [hz11]; omega) dX8_restore_26 ?_
    try simp only [s11]
    refine zp_X8_people F (by with_reducible assumption) fl_X8_76 dX8_restore_27 ?_
    refine z_aload_n F dX8_restore_30 rfl ?_
    refine z_aload_n F dX8_restore_31 rfl ?_
    refine zg_X8_image F (by with_reducible assumption) fl_X8_40 dX8_restore_32 (fun hk_32 => ?_)
    refine z_iconst (v := 2) F dX8_restore_35 (by decide) ?_
    refine z_iald10n (q := 2) F (by with_reducible assumption) (by decide) (by rw [hz11]; omega) dX8_restore_36 ?_
    try simp only [s11]
    refine zp_X8_heed F (by with_reducible assumption) fl_X8_60 dX8_restore_37 ?_
    refine z_aload_n F dX8_restore_40 rfl ?_
    refine z_aload_n F dX8_restore_41 rfl ?_
    refine zg_X8_image F (by with_reducible assumption) fl_X8_40 dX8_restore_42 (fun hk_42 => ?_)
    refine z_iconst (v := 3) F dX8_restore_45 (by decide) ?_
    refine z_iald10n (q := 3) F (by with_reducible assumption) (by decide) (by rw [hz11]; omega) dX8_restore_46 ?_
    try simp only [s11]
    refine zp_X8_well F (by with_reducible assumption) fl_X8_56 dX8_restore_47 ?_
    refine z_aload_n F dX8_restore_50 rfl ?_
    refine z_aload_n F dX8_restore_51 rfl ?_
    refine zg_X8_image F (by with_reducible assumption) fl_X8_40 dX8_restore_52 (fun hk_52 => ?_)
    refine z_iconst (v := 4) F dX8_restore_55 (by decide) ?_
    refine z_iald10n (q := 4) F (by with_reducible assumption) (by decide) (by rw [hz11]; omega) dX8_restore_56 ?_
    try simp only [s11]
    refine zp_X8_undos F (by with_reducible assumption) fl_X8_66 dX8_restore_57 ?_
    refine z_aload_n F dX8_restore_60 rfl ?_
    refine z_iconst (v := 5) F dX8_restore_61 (by decide) ?_
    refine z_aload_n F dX8_restore_62 rfl ?_
    refine zg_X8_thing F (by with_reducible assumption) fl_X8_7 dX8_restore_63 (fun hk_63 => ?_)
    refine z_callVi F (c_X8_gives J (k0 := 5) hk ho hk_63 (by omega) (by rw [hz1]; decide)) zm_X8_gives zv_X8_gives ml_X8_223 (by with_reducible assumption) (by decide) rfl rfl rfl (Nat.le_of_ble_eq_true rfl) dX8_restore_66 (by omega) (fun r_66 M_66 h_66 => ?_)
    obtain ⟨e_66, f_66⟩ := h_66
    simp only [hz1, hz2, hz3, hz7] at e_66
    subst e_66
    simp only [s1, s2, s3, s7, s11, a12, a13, a17, a111, a23, a27, a211, a37, a311, hz1, hz2, hz3, hz7] at f_66
    subst f_66
    refine z_istore_n (lv' := [_, _]) F dX8_restore_69 (by decide) rfl rfl ?_
    refine z_aload_n F dX8_restore_70 rfl ?_
    refine z_iload_n F dX8_restore_71 rfl ?_
    refine z_aload_n F dX8_restore_72 rfl ?_
    refine zg_X8_person F (by with_reducible assumption) fl_X8_13 dX8_restore_73 (fun hk_73 => ?_)
    refine z_callVi F (c_X8_gives J (k0 := 45) hk ho hk_73 (by omega) (by rw [hz2]; decide)) zm_X8_gives zv_X8_gives ml_X8_223 (by with_reducible assumption) (by decide) rfl rfl rfl (Nat.le_of_ble_eq_true rfl) dX8_restore_76 (by omega) (fun r_76 M_76 h_76 => ?_)
    obtain ⟨e_76, f_76⟩ := h_76
    simp only [hz1, hz2, hz3, hz7] at e_76
    subst e_76
    simp only [s1, s2, s3, s7, s11, a12, a13, a17, a111, a23, a27, a211, a37, a311, hz1, hz2, hz3, hz7] at f_76
    subst f_76
    refine z_istore_n (lv' := [_, _]) F dX8_restore_79 (by decide) rfl rfl ?_
    refine z_aload_n F dX8_restore_80 rfl ?_
    refine z_iload_n F dX8_restore_81 rfl ?_
    refine z_aload_n F dX8_restore_82 rfl ?_
    refine zg_X8_now F (by with_reducible assumption) fl_X8_16 dX8_restore_83 (fun hk_83 => ?_)
    refine z_callVi F (c_X8_gives J (k0 := 61) hk ho hk_83 (by omega) (by rw [hz3]; decide)) zm_X8_gives zv_X8_gives ml_X8_223 (by with_reducible assumption) (by decide) rfl rfl rfl (Nat.le_of_ble_eq_true rfl) dX8_restore_86 (by omega) (fun r_86 M_86 h_86 => ?_)
    obtain ⟨e_86, f_86⟩ := h_86
    simp only [hz1, hz2, hz3, hz7] at e_86
    subst e_86
    simp only [s1, s2, s3, s7, s11, a12, a13, a17, a111, a23, a27, a211, a37, a311, hz1, hz2, hz3, hz7] at f_86
    subst f_86
    refine z_istore_n (lv' := [_, _]) F dX8_restore_89 (by decide) rfl rfl ?_
    refine z_aload_n F dX8_restore_90 rfl ?_
    refine z_iload_n F dX8_restore_91 rfl ?_
    refine z_aload_n F dX8_restore_92 rfl ?_
    refine zg_X8_undone F (by with_reducible assumption) fl_X8_28 dX8_restore_93 (fun hk_93 => ?_)
    refine z_callVi F (c_X8_gives J (k0 := 75) hk ho hk_93 (by omega) (by rw [hz7]; decide)) zm_X8_gives zv_X8_gives ml_X8_223 (by with_reducible assumption) (by decide) rfl rfl rfl (Nat.le_of_ble_eq_true rfl) dX8_restore_96 (by omega) (fun r_96 M_96 h_96 => ?_)
    obtain ⟨e_96, f_96⟩ := h_96
    simp only [hz1, hz2, hz3, hz7] at e_96
    subst e_96
    simp only [s1, s2, s3, s7, s11, a12, a13, a17, a111, a23, a27, a211, a37, a311, hz1, hz2, hz3, hz7] at f_96
    subst f_96
    refine z_pop F dX8_restore_99 rfl ?_
    refine z_iconst (v := 1) F dX8_restore_100 (by decide) ?_
    refine z_iret F X dX8_restore_101 ?_
    exact Or.inr ⟨h_4, rfl, rfl⟩
  · try simp only [s11] at h_4
    refine z_bipush (v := (-4)) F dX8_restore_7 (by decide) ?_
    refine z_iret F X dX8_restore_9 ?_
    exact Or.inl ⟨h_4, rfl, rfl⟩
theorem why_ok2 {A B ln i : Int32} {m L : Nat} (hm : m < 2 ^ 31) (hB : B = nI L) (hL : L ≤ 16) (h : ¬ whyF A B ln i (nI m) < 0) : ∃ a, i = nI a ∧ a + m ≤ L := by
  unfold whyF at h
  by_cases h1 : A < 0
  · rw [if_pos h1] at h; exact absurd (by decide) h
  · rw [if_neg h1] at h
    by_cases h2 : A = ln
    · rw [if_neg (fun q => q h2)] at h
      by_cases h3 : i < 0 ∨ B.toInt64 < i.toInt64 + (nI m).toInt64
      · rw [if_pos h3] at h; exact absurd (by decide) h
      · obtain ⟨a, ha, rfl⟩ := nI_of (fun q => h3 (Or.inl q))
        refine ⟨a, rfl, ?_⟩
        have h4 : ¬ B.toInt64 < (nI a).toInt64 + (nI m).toInt64 := fun q => h3 (Or.inr q)
        rw [hB, nI_l (by omega), nI_l (by omega), nI_l (by omega), lN_add, Int64.lt_iff_toInt_lt, lN_big (by omega), lN_big (by omega)] at h4
        omega
    · rw [if_pos h2] at h; exact absurd (by decide) h
/-- n of a row's longs, from place s on, laid at place d on -/
def mvL (f : Nat → Int64) (s : Nat) (g : Nat → Int64) (d : Nat) : Nat → Nat → Int64
  | 0 => g
  | n + 1 => va_up (mvL f s g d n) (d + n) (f (s + n))
theorem c_X8_copy {l : Launch} {w : zE} (J : zJ w) {M : zM} {o : Nat} {x i y j n : Int32} (hk : zk o = 8) (ho : o = 138) (hS : szOK (M.1 (o + 13))) : zCi l w yX8_copy cX8_copy 7 (some .int) 2 [.ref (w.2.2 o), .int x, .int i, .int y, .int j, .int n] M (fun r M2 => (((x < 0 ∨ 3 < x) ∨ (y < 0 ∨ 3 < y)) ∧ r = -1 ∧ M2 = M) ∨ (¬ ((x < 0 ∨ 3 < x) ∨ (y < 0 ∨ 3 < y)) ∧ ∃ q p, q < 4 ∧ p < 4 ∧ x = nI q ∧ y = nI p ∧ (((M.1 (o + 12) q < 0 ∨ M.1 (o + 12) p < 0) ∧ r = -11 ∧ M2 = M) ∨ (¬ (M.1 (o + 12) q < 0 ∨ M.1 (o + 12) p < 0) ∧ ((¬ M.1 (o + 12) q = M.1 (o + 12) p ∧ r = -12 ∧ M2 = M) ∨ (M.1 (o + 12) q = M.1 (o + 12) p ∧ (((n < 0 ∨ whyF (M.1 (o + 12) q) (M.1 (o + 13) q) (M.1 (o + 12) q) i n < 0 ∨ whyF (M.1 (o + 12) p) (M.1 (o + 13) p) (M.1 (o + 12) p) j n < 0) ∧ r = -13 ∧ M2 = M) ∨ (¬ (n < 0 ∨ whyF (M.1 (o + 12) q) (M.1 (o + 13) q) (M.1 (o + 12) q) i n < 0 ∨ whyF (M.1 (o + 12) p) (M.1 (o + 13) p) (M.1 (o + 12) p) j n < 0) ∧ r = n ∧ ∃ a b m, i = nI a ∧ j = nI b ∧ n = nI m ∧ a + m ≤ 16 ∧ b + m ≤ 16 ∧ M2 = zya (zya M (o + 15) (mvL (M.2 (o + 14)) (16 * q + a) (M.2 (o + 15)) 0 m)) (o + 14) (mvL (mvL (M.2 (o + 14)) (16 * q + a) (M.2 (o + 15)) 0 m) 0 (M.2 (o + 14)) (16 * p + b) m))))))))) := by
  obtain ⟨hz1, hz2, hz3, hz4, hz5, hz6, hz7, hz8, hz9, hz10, hz11, hz12, hz13, hz14, hz15⟩ := zn8 ho
  have k14 : ∀ (N : zM) (f : Nat → Int64), (zya N (o + 15) f).2 (o + 14) = N.2 (o + 14) := fun N f => va_up_ne _ _ (by omega)
  have k15 : ∀ (N : zM) (f : Nat → Int64), (zya N (o + 14) f).2 (o + 15) = N.2 (o + 15) := fun N f => va_up_ne _ _ (by omega)
  have k55 : ∀ (N : zM) (f : Nat → Int64), (zya N (o + 15) f).2 (o + 15) = f := fun N f => va_up_self _ _ _
  refine zCi_of J zm_X8_copy [some (.ref (w.2.2 o)), some (.int x), some (.int i), some (.int y), some (.int j), some (.int n), none] (Nat.le_of_ble_eq_true rfl) rfl (fun g hg F X => ?_)
  subst hg
  have key2 : ∀ (q p a b m : Nat) (f : Nat → Int64), q < 4 → p < 4 → a + m ≤ 16 → b + m ≤ 16 → (∀ M2, M2 = zya (zya M (o + 15) f) (o + 14) (mvL f 0 (M.2 (o + 14)) (16 * p + b) m) → ZW w g 7 173 [some (.ref (w.2.2 o)), some (.int (nI q)), some (.int (nI a)), some (.int (nI p)), some (.int (nI b)), some (.int (nI m)), some (.int (nI m))] [] M2) → ∀ (r k : Nat), k + r = m → ZW w g 7 138 [some (.ref (w.2.2 o)), some (.int (nI q)), some (.int (nI a)), some (.int (nI p)), some (.int (nI b)), some (.int (nI m)), some (.int (nI k))] [] (zya (zya M (o + 15) f) (o + 14) (mvL f 0 (M.2 (o + 14)) (16 * p + b) k)) := by
    intro q p a b m f hq hp ham hbm K r
    induction r with
    | zero =>
      intro k hkr
      obtain rfl : k = m := by omega
      refine z_iload F dX8_copy_138 rfl ?_
      refine z_iload F dX8_copy_140 rfl ?_
      refine z_ic_ge (tgt := 173) F dX8_copy_142 (by decide) (fun h_142 => ?_) (fun h_142 => absurd h_142 (fun z => absurd z (Int32.not_lt.mpr (Int32.le_refl _))))
      exact K _ rfl
    | succ r ih =>
      intro k hkr
      refine z_iload F dX8_copy_138 rfl ?_
      refine z_iload F dX8_copy_140 rfl ?_
      refine z_ic_ge (tgt := 173) F dX8_copy_142 (by decide) (fun h_142 => absurd h_142 (nI_ge (by omega) (by omega))) (fun h_142 => ?_)
      refine z_aload_n F dX8_copy_145 rfl ?_
      refine zg_X8_items F (by with_reducible assumption) fl_X8_49 dX8_copy_146 (fun hk_146 => ?_)
      refine z_bipush (v := 16) F dX8_copy_149 (by decide) ?_
      refine z_iload_n F dX8_copy_151 rfl ?_
      refine z_imul F dX8_copy_152 ?_
      refine z_iload F dX8_copy_153 rfl ?_
      refine z_iadd F dX8_copy_155 ?_
      refine z_iload F dX8_copy_156 rfl ?_
      refine z_iadd F dX8_copy_158 ?_
      refine z_aload_n F dX8_copy_159 rfl ?_
      refine zg_X8_moved F (by with_reducible assumption) fl_X8_53 dX8_copy_160 (fun hk_160 => ?_)
      refine z_iload F dX8_copy_163 rfl ?_
      refine z_lald14n (q := k) F (by with_reducible assumption) (by first | with_reducible rfl | (simp only [n4, n2, n3, n5, n14, n16, na1, na2, na3, nI_add, nI_1, nI_pred]; done) | (simp only [n4, n2, n3, n5, n14, n16, na1, na2, na3, nI_add, nI_1, nI_pred, Nat.add_assoc, Nat.add_comm, Nat.add_left_comm]; done)) (by rw [hz15]; omega) dX8_copy_165 ?_
      try simp only [k15, k55]
      refine z_last14n (q := (((16 * p) + b) + k)) F (by with_reducible assumption) (by first | with_reducible rfl | (simp only [n4, n2, n3, n5, n14, n16, na1, na2, na3, nI_add, nI_1, nI_pred]; done) | (simp only [n4, n2, n3, n5, n14, n16, na1, na2, na3, nI_add, nI_1, nI_pred, Nat.add_assoc, Nat.add_comm, Nat.add_left_comm]; done)) (by rw [hz14]; omega) dX8_copy_166 ?_
      refine z_iincc (c := 1) (lv' := [_, _, _, _, _, _, _]) F dX8_copy_167 rfl (by decide) (by decide) rfl rfl ?_
      refine z_goto (tgt := 138) F dX8_copy_170 (by decide) ?_
      rw [nI_1, zy_zya]
      have Q := ih (k + 1) (by omega)
      rw [mvL, Nat.zero_add] at Q
      exact Q
  have key1 : ∀ (q p a b m : Nat), q < 4 → p < 4 → a + m ≤ 16 → b + m ≤ 16 → (∀ M2, M2 = zya (zya M (o + 15) (mvL (M.2 (o + 14)) (16 * q + a) (M.2 (o + 15)) 0 m)) (o + 14) (mvL (mvL (M.2 (o + 14)) (16 * q + a) (M.2 (o + 15)) 0 m) 0 (M.2 (o + 14)) (16 * p + b) m) → ZW w g 7 173 [some (.ref (w.2.2 o)), some (.int (nI q)), some (.int (nI a)), some (.int (nI p)), some (.int (nI b)), some (.int (nI m)), some (.int (nI m))] [] M2) → ∀ (r k : Nat), k + r = m → ZW w g 7 101 [some (.ref (w.2.2 o)), some (.int (nI q)), some (.int (nI a)), some (.int (nI p)), some (.int (nI b)), some (.int (nI m)), some (.int (nI k))] [] (zya M (o + 15) (mvL (M.2 (o + 14)) (16 * q + a) (M.2 (o + 15)) 0 k)) := by
    intro q p a b m hq hp ham hbm K r
    induction r with
    | zero =>
      intro k hkr
      obtain rfl : k = m := by omega
      refine z_iload F dX8_copy_101 rfl ?_
      refine z_iload F dX8_copy_103 rfl ?_
      refine z_ic_ge (tgt := 135) F dX8_copy_105 (by decide) (fun h_105 => ?_) (fun h_105 => absurd h_105 (fun z => absurd z (Int32.not_lt.mpr (Int32.le_refl _))))
      refine z_iconst (v := 0) F dX8_copy_135 (by decide) ?_
      refine z_istore (lv' := [_, _, _, _, _, _, _]) F dX8_copy_136 (by decide) rfl rfl ?_
      have Q := key2 q p a b k _ hq hp ham hbm K k 0 (by omega)
      rw [show mvL (mvL (M.2 (o + 14)) (16 * q + a) (M.2 (o + 15)) 0 k) 0 (M.2 (o + 14)) (16 * p + b) 0 = (zya M (o + 15) (mvL (M.2 (o + 14)) (16 * q + a) (M.2 (o + 15)) 0 k)).2 (o + 14) from (k14 _ _).symm, zya_self] at Q
      exact Q
    | succ r ih =>
      intro k hkr
      refine z_iload F dX8_copy_101 rfl ?_
      refine z_iload F dX8_copy_103 rfl ?_
      refine z_ic_ge (tgt := 135) F dX8_copy_105 (by decide) (fun h_105 => absurd h_105 (nI_ge (by omega) (by omega))) (fun h_105 => ?_)
      refine z_aload_n F dX8_copy_108 rfl ?_
      refine zg_X8_moved F (by with_reducible assumption) fl_X8_53 dX8_copy_109 (fun hk_109 => ?_)
      refine z_iload F dX8_copy_112 rfl ?_
      refine z_aload_n F dX8_copy_114 rfl ?_
      refine zg_X8_items F (by with_reducible assumption) fl_X8_49 dX8_copy_115 (fun hk_115 => ?_)
      refine z_bipush (v := 16) F dX8_copy_118 (by decide) ?_
      refine z_iload_n F dX8_copy_120 rfl ?_
      refine z_imul F dX8_copy_121 ?_
      refine z_iload_n F dX8_copy_122 rfl ?_
      refine z_iadd F dX8_copy_123 ?_
      refine z_iload F dX8_copy_124 rfl ?_
      refine z_iadd F dX8_copy_126 ?_
      refine z_lald14n (q := (((16 * q) + a) + k)) F (by with_reducible assumption) (by first | with_reducible rfl | (simp only [n4, n2, n3, n5, n14, n16, na1, na2, na3, nI_add, nI_1, nI_pred]; done) | (simp only [n4, n2, n3, n5, n14, n16, na1, na2, na3, nI_add, nI_1, nI_pred, Nat.add_assoc, Nat.add_comm, Nat.add_left_comm]; done)) (by rw [hz14]; omega) dX8_copy_127 ?_
      try simp only [k14]
      refine z_last14n (q := k) F (by with_reducible assumption) (by first | with_reducible rfl | (simp only [n4, n2, n3, n5, n14, n16, na1, na2, na3, nI_add, nI_1, nI_pred]; done) | (simp only [n4, n2, n3, n5, n14, n16, na1, na2, na3, nI_add, nI_1, nI_pred, Nat.add_assoc, Nat.add_comm, Nat.add_left_comm]; done)) (by rw [hz15]; omega) dX8_copy_128 ?_
      refine z_iincc (c := 1) (lv' := [_, _, _, _, _, _, _]) F dX8_copy_129 rfl (by decide) (by decide) rfl rfl ?_
      refine z_goto (tgt := 101) F dX8_copy_132 (by decide) ?_
      rw [nI_1, zy_zya]
      have Q := ih (k + 1) (by omega)
      rw [mvL, Nat.zero_add] at Q
      exact Q
  refine z_iload_n F dX8_copy_0 rfl ?_
  refine z_callSi F (c_X8_isSheet J) zm_X8_isSheet zst_X8_isSheet ml_X8_227 rfl rfl (Nat.le_of_ble_eq_true rfl) dX8_copy_1 (by omega) (fun r_1 M_1 h_1 => ?_)
  obtain ⟨e_1, rfl⟩ := h_1
  replace e_1 := Eq.symm e_1
  subst e_1
  refine z_if_eq (tgt := 14) F dX8_copy_4 (by decide) (fun h_4 => ?_) (fun h_4 => ?_)
  · replace h_4 := bI_0.mp h_4
    refine z_iconst (v := (-1)) F dX8_copy_14 (by decide) ?_
    refine z_iret F X dX8_copy_15 ?_
    exact Or.inl ⟨Or.inl (Classical.not_not.mp h_4), rfl, rfl⟩
  · replace h_4 := bI_1.mp h_4
    refine z_iload_n F dX8_copy_7 rfl ?_
    refine z_callSi F (c_X8_isSheet J) zm_X8_isSheet zst_X8_isSheet ml_X8_227 rfl rfl (Nat.le_of_ble_eq_true rfl) dX8_copy_8 (by omega) (fun r_8 M_8 h_8 => ?_)
    obtain ⟨e_8, rfl⟩ := h_8
    replace e_8 := Eq.symm e_8
    subst e_8
    refine z_if_ne (tgt := 16) F dX8_copy_11 (by decide) (fun h_11 => ?_) (fun h_11 => ?_)
    · replace h_11 := bI_1.mp h_11
      obtain ⟨q, hq, rfl⟩ := s4_in h_4
      obtain ⟨p, hp, rfl⟩ := s4_in h_11
      refine z_aload_n F dX8_copy_16 rfl ?_
      refine zg_X8_lanes F (by with_reducible assumption) fl_X8_43 dX8_copy_17 (fun hk_17 => ?_)
      refine z_iload_n F dX8_copy_20 rfl ?_
      refine z_iald10n (q := q) F (by with_reducible assumption) (by first | with_reducible rfl | (simp only [n4, n2, n3, n5, n14, n16, na1, na2, na3, nI_add, nI_1, nI_pred]; done) | (simp only [n4, n2, n3, n5, n14, n16, na1, na2, na3, nI_add, nI_1, nI_pred, Nat.add_assoc, Nat.add_comm, Nat.add_left_comm]; done)) (by rw [hz12]; omega) dX8_copy_21 ?_
      refine z_if_lt (tgt := 34) F dX8_copy_22 (by decide) (fun h_22 => ?_) (fun h_22 => ?_)
      · refine z_bipush (v := (-11)) F dX8_copy_34 (by decide) ?_
        refine z_iret F X dX8_copy_36 ?_
        exact Or.inr ⟨fun z => z.elim h_4 h_11, q, p, hq, hp, rfl, rfl, Or.inl ⟨Or.inl h_22, rfl, rfl⟩⟩
      · refine z_aload_n F dX8_copy_25 rfl ?_
        refine zg_X8_lanes F (by with_reducible assumption) fl_X8_43 dX8_copy_26 (fun hk_26 => ?_)
        refine z_iload_n F dX8_copy_29 rfl ?_
        refine z_iald10n (q := p) F (by with_reducible assumption) (by first | with_reducible rfl | (simp only [n4, n2, n3, n5, n14, n16, na1, na2, na3, nI_add, nI_1, nI_pred]; done) | (simp only [n4, n2, n3, n5, n14, n16, na1, na2, na3, nI_add, nI_1, nI_pred, Nat.add_assoc, Nat.add_comm, Nat.add_left_comm]; done)) (by rw [hz12]; omega) dX8_copy_30 ?_
        refine z_if_ge (tgt := 37) F dX8_copy_31 (by decide) (fun h_31 => ?_) (fun h_31 => ?_)
        · refine z_aload_n F dX8_copy_37 rfl ?_
          refine zg_X8_lanes F (by with_reducible assumption) fl_X8_43 dX8_copy_38 (fun hk_38 => ?_)
          refine z_iload_n F dX8_copy_41 rfl ?_
          refine z_iald10n (q := q) F (by with_reducible assumption) (by first | with_reducible rfl | (simp only [n4, n2, n3, n5, n14, n16, na1, na2, na3, nI_add, nI_1, nI_pred]; done) | (simp only [n4, n2, n3, n5, n14, n16, na1, na2, na3, nI_add, nI_1, nI_pred, Nat.add_assoc, Nat.add_comm, Nat.add_left_comm]; done)) (by rw [hz12]; omega) dX8_copy_42 ?_
          refine z_aload_n F dX8_copy_43 rfl ?_
          refine zg_X8_lanes F (by with_reducible assumption) fl_X8_43 dX8_copy_44 (fun hk_44 => ?_)
          refine z_iload_n F dX8_copy_47 rfl ?_
          refine z_iald10n (q := p) F (by with_reducible assumption) (by first | with_reducible rfl | (simp only [n4, n2, n3, n5, n14, n16, na1, na2, na3, nI_add, nI_1, nI_pred]; done) | (simp only [n4, n2, n3, n5, n14, n16, na1, na2, na3, nI_add, nI_1, nI_pred, Nat.add_assoc, Nat.add_comm, Nat.add_left_comm]; done)) (by rw [hz12]; omega) dX8_copy_48 ?_
          refine z_ic_eq (tgt := 55) F dX8_copy_49 (by decide) (fun h_49 => ?_) (fun h_49 => ?_)
          · refine z_iload F dX8_copy_55 rfl ?_
            refine z_if_lt (tgt := 95) F dX8_copy_57 (by decide) (fun h_57 => ?_) (fun h_57 => ?_)
            · refine z_bipush (v := (-13)) F dX8_copy_95 (by decide) ?_
              refine z_iret F X dX8_copy_97 ?_
              exact Or.inr ⟨fun z => z.elim h_4 h_11, q, p, hq, hp, rfl, rfl, Or.inr ⟨fun z => z.elim (nlt h_22) (nlt h_31), Or.inr ⟨h_49, Or.inl ⟨Or.inl h_57, rfl, rfl⟩⟩⟩⟩
            · obtain ⟨m, hm, rfl⟩ := nI_of (nlt h_57)
              refine z_aload_n F dX8_copy_60 rfl ?_
              refine z_iload_n F dX8_copy_61 rfl ?_
              refine z_aload_n F dX8_copy_62 rfl ?_
              refine zg_X8_lanes F (by with_reducible assumption) fl_X8_43 dX8_copy_63 (fun hk_63 => ?_)
              refine z_iload_n F dX8_copy_66 rfl ?_
              refine z_iald10n (q := q) F (by with_reducible assumption) (by first | with_reducible rfl | (simp only [n4, n2, n3, n5, n14, n16, na1, na2, na3, nI_add, nI_1, nI_pred]; done) | (simp only [n4, n2, n3, n5, n14, n16, na1, na2, na3, nI_add, nI_1, nI_pred, Nat.add_assoc, Nat.add_comm, Nat.add_left_comm]; done)) (by rw [hz12]; omega) dX8_copy_67 ?_
              refine z_iload_n F dX8_copy_68 rfl ?_
              refine z_iload F dX8_copy_69 rfl ?_
              refine z_callVi F (c_X8_why J hk ho hq) zm_X8_why zv_X8_why ml_X8_235 (by with_reducible assumption) (by decide) rfl rfl rfl (Nat.le_of_ble_eq_true rfl) dX8_copy_71 (by omega) (fun r_71 M_71 h_71 => ?_)
              obtain ⟨e_71, rfl⟩ := h_71
              replace e_71 := Eq.symm e_71
              subst e_71
              refine z_if_lt (tgt := 95) F dX8_copy_74 (by decide) (fun h_74 => ?_) (fun h_74 => ?_)
              · refine z_bipush (v := (-13)) F dX8_copy_95 (by decide) ?_
                refine z_iret F X dX8_copy_97 ?_
                exact Or.inr ⟨fun z => z.elim h_4 h_11, q, p, hq, hp, rfl, rfl, Or.inr ⟨fun z => z.elim (nlt h_22) (nlt h_31), Or.inr ⟨h_49, Or.inl ⟨Or.inr (Or.inl h_74), rfl, rfl⟩⟩⟩⟩
              · refine z_aload_n F dX8_copy_77 rfl ?_
                refine z_iload_n F dX8_copy_78 rfl ?_
                refine z_aload_n F dX8_copy_79 rfl ?_
                refine zg_X8_lanes F (by with_reducible assumption) fl_X8_43 dX8_copy_80 (fun hk_80 => ?_)
                refine z_iload_n F dX8_copy_83 rfl ?_
                refine z_iald10n (q := p) F (by with_reducible assumption) (by first | with_reducible rfl | (simp only [n4, n2, n3, n5, n14, n16, na1, na2, na3, nI_add, nI_1, nI_pred]; done) | (simp only [n4, n2, n3, n5, n14, n16, na1, na2, na3, nI_add, nI_1, nI_pred, Nat.add_assoc, Nat.add_comm, Nat.add_left_comm]; done)) (by rw [hz12]; omega) dX8_copy_84 ?_
                refine z_iload F dX8_copy_85 rfl ?_
                refine z_iload F dX8_copy_87 rfl ?_
                refine z_callVi F (c_X8_why J hk ho hp) zm_X8_why zv_X8_why ml_X8_235 (by with_reducible assumption) (by decide) rfl rfl rfl (Nat.le_of_ble_eq_true rfl) dX8_copy_89 (by omega) (fun r_89 M_89 h_89 => ?_)
                obtain ⟨e_89, rfl⟩ := h_89
                replace e_89 := Eq.symm e_89
                subst e_89
                refine z_if_ge (tgt := 98) F dX8_copy_92 (by decide) (fun h_92 => ?_) (fun h_92 => ?_)
                · obtain ⟨L1, hL1, hB1⟩ := hS q hq
                  obtain ⟨L2, hL2, hB2⟩ := hS p hp
                  obtain ⟨a, rfl, ha⟩ := why_ok2 hm hB1 hL1 (nlt h_74)
                  obtain ⟨b, rfl, hb⟩ := why_ok2 hm hB2 hL2 (nlt h_92)
                  refine z_iconst (v := 0) F dX8_copy_98 (by decide) ?_
                  refine z_istore (lv' := [_, _, _, _, _, _, _]) F dX8_copy_99 (by decide) rfl rfl ?_
                  have Q := key1 q p a b m hq hp (by omega) (by omega) (fun M2 hM2 => ?_) m 0 (by omega)
                  · rw [show mvL (M.2 (o + 14)) (16 * q + a) (M.2 (o + 15)) 0 0 = M.2 (o + 15) from rfl, zya_self] at Q
                    exact Q
                  · refine z_iload F dX8_copy_173 rfl ?_
                    refine z_iret F X dX8_copy_175 ?_
                    exact Or.inr ⟨fun z => z.elim h_4 h_11, q, p, hq, hp, rfl, rfl, Or.inr ⟨fun z => z.elim (nlt h_22) (nlt h_31), Or.inr ⟨h_49, Or.inr ⟨fun z => z.elim (nlt h_57) (fun z => z.elim (nlt h_74) (nlt h_92)), rfl, a, b, m, rfl, rfl, rfl, by omega, by omega, hM2⟩⟩⟩⟩
                · refine z_bipush (v := (-13)) F dX8_copy_95 (by decide) ?_
                  refine z_iret F X dX8_copy_97 ?_
                  exact Or.inr ⟨fun z => z.elim h_4 h_11, q, p, hq, hp, rfl, rfl, Or.inr ⟨fun z => z.elim (nlt h_22) (nlt h_31), Or.inr ⟨h_49, Or.inl ⟨Or.inr (Or.inr h_92), rfl, rfl⟩⟩⟩⟩
          · refine z_bipush (v := (-12)) F dX8_copy_52 (by decide) ?_
            refine z_iret F X dX8_copy_54 ?_
            exact Or.inr ⟨fun z => z.elim h_4 h_11, q, p, hq, hp, rfl, rfl, Or.inr ⟨fun z => z.elim (nlt h_22) (nlt h_31), Or.inl ⟨h_49, rfl, rfl⟩⟩⟩
        · refine z_bipush (v := (-11)) F dX8_copy_34 (by decide) ?_
          refine z_iret F X dX8_copy_36 ?_
          exact Or.inr ⟨fun z => z.elim h_4 h_11, q, p, hq, hp, rfl, rfl, Or.inl ⟨Or.inr h_31, rfl, rfl⟩⟩
    · replace h_11 := bI_0.mp h_11
      refine z_iconst (v := (-1)) F dX8_copy_14 (by decide) ?_
      refine z_iret F X dX8_copy_15 ?_
      exact Or.inl ⟨Or.inr (Classical.not_not.mp h_11), rfl, rfl⟩
end
section
/-! what moved him, by changes seen, in general -/
theorem mind_and (s : Int32) (P Q : Prop) [Decidable P] [Decidable Q] : (s &&& (if P then 3 else 2)) &&& (if Q then 3 else 1) = s &&& ((0 ||| (if P then 1 else 0)) ||| (if Q then 2 else 0)) := by
  rw [Int32.and_assoc]
  refine congrArg (s &&& ·) ?_
  split <;> split <;> decide
theorem l_in {v : Int64} {nt : Nat} (h : 0 ≤ v ∧ v < (nI nt).toInt64) (h10 : nt ≤ 10) : ∃ j, j < nt ∧ v.toInt32 = nI j := by
  rw [nI_l (by omega), Int64.lt_iff_toInt_lt, lN_toInt (by omega), Int64.le_iff_toInt_le] at h
  have h0 : (0 : Int64).toInt = 0 := by decide
  rw [h0] at h
  refine ⟨v.toInt.toNat, by omega, ?_⟩
  have e : v = lN v.toInt.toNat := by
    apply Int64.toInt_inj.mp
    rw [lN_toInt (by omega)]
    omega
  rw [e, lN_i, lN_toInt (by omega)]
  rfl
theorem allIn_2 {f : Nat → Int64} {nt : Int32} : ∀ (t a : Nat), allIn f nt (2 * t) a → (0 ≤ f (a + 2 * t) ∧ f (a + 2 * t) < nt.toInt64) → (0 ≤ f (a + 2 * t + 1) ∧ f (a + 2 * t + 1) < nt.toInt64) → allIn f nt (2 * (t + 1)) a := by
  intro t
  induction t with
  | zero => intro a _ h1 h2; exact ⟨h1, h2, trivial⟩
  | succ t ih =>
    intro a h h1 h2
    obtain ⟨g1, g2, g3⟩ := h
    exact ⟨g1, g2, ih (a + 1 + 1) g3 (by rw [show a + 1 + 1 + 2 * t = a + 2 * (t + 1) by omega]; exact h1) (by rw [show a + 1 + 1 + 2 * t + 1 = a + 2 * (t + 1) + 1 by omega]; exact h2)⟩
theorem allIn_n {f : Nat → Int64} {nt : Int32} {m a q : Nat} (h : allIn f nt m a) (h1 : a ≤ q) (h2 : q < a + m) (z : ¬ (0 ≤ f q ∧ f q < nt.toInt64)) : False := z (allIn_at h q h1 h2)
theorem seenL_s {th : zF1} {f : Nat → Int64} : ∀ (t a : Nat) (s : Int32), seenL th f (t + 1) a s = seenL th f t a s &&& mindsF th (f (a + 2 * t)).toInt32.toNatClampNeg (f (a + 2 * t + 1)).toInt32.toNatClampNeg := by
  intro t
  induction t with
  | zero => intro a s; rfl
  | succ t ih =>
    intro a s
    rw [seenL, ih, seenL, show a + 2 + 2 * t = a + 2 * (t + 1) by omega]
theorem c_X8_seen {l : Launch} {w : zE} (J : zJ w) {M : zM} {o nt : Nat} {x ln i n : Int32} (hk : zk o = 8) (ho : o = 138) (hnt : M.1 o 0 = nI nt) (h10 : nt ≤ 10) (kd : kdOK (M.1 (o + 1))) (hS : szOK (M.1 (o + 13))) : zCi l w yX8_seen cX8_seen 10 (some .int) 2 [.ref (w.2.2 o), .int x, .int ln, .int i, .int n] M (fun r M2 => M2 = M ∧ ((((x < 0 ∨ 3 < x) ∨ (ln < 0 ∨ 3 < ln)) ∨ (n < 1 ∨ 8 < n)) ∧ r = -1 ∨ ¬ (((x < 0 ∨ 3 < x) ∨ (ln < 0 ∨ 3 < ln)) ∨ (n < 1 ∨ 8 < n)) ∧ ∃ q, q < 4 ∧ x = nI q ∧ (whyF (M.1 (o + 12) q) (M.1 (o + 13) q) ln i (2 * n) < 0 ∧ r = whyF (M.1 (o + 12) q) (M.1 (o + 13) q) ln i (2 * n) ∨ ¬ whyF (M.1 (o + 12) q) (M.1 (o + 13) q) ln i (2 * n) < 0 ∧ ∃ a m, i = nI a ∧ n = nI m ∧ a + 2 * m ≤ 16 ∧ (¬ allIn (fun k => M.2 (o + 14) (16 * q + k)) (M.1 o 0) (2 * m) a ∧ r = -2 ∨ allIn (fun k => M.2 (o + 14) (16 * q + k)) (M.1 o 0) (2 * m) a ∧ r = seenL (M.1 (o + 1)) (fun k => M.2 (o + 14) (16 * q + k)) m a 3)))) := by
  obtain ⟨hz1, hz2, hz3, hz4, hz5, hz6, hz7, hz8, hz9, hz10, hz11, hz12, hz13, hz14, hz15⟩ := zn8 ho
  refine zCi_of J zm_X8_seen [some (.ref (w.2.2 o)), some (.int x), some (.int ln), some (.int i), some (.int n), none, none, none, none, none] (Nat.le_of_ble_eq_true rfl) rfl (fun g hg F X => ?_)
  subst hg
  have key2 : ∀ (q a m : Nat) (y : Int32), q < 4 → a + 2 * m ≤ 16 → allIn (fun k => M.2 (o + 14) (16 * q + k)) (M.1 o 0) (2 * m) a → (∀ lv8 lv9, ZW w g 10 226 [some (.ref (w.2.2 o)), some (.int (nI q)), some (.int ln), some (.int (nI a)), some (.int (nI m)), some (.int y), some (.int (seenL (M.1 (o + 1)) (fun k => M.2 (o + 14) (16 * q + k)) m a 3)), some (.int (nI (16 * q + a + 2 * m))), lv8, lv9] [] M) → ∀ (r t : Nat) (lv8 lv9 : Option Value), t + r = m → zok [none, none, none, none, none, none, none, none, lv8, lv9] 9 = true → ZW w g 10 124 [some (.ref (w.2.2 o)), some (.int (nI q)), some (.int ln), some (.int (nI a)), some (.int (nI m)), some (.int y), some (.int (seenL (M.1 (o + 1)) (fun k => M.2 (o + 14) (16 * q + k)) t a 3)), some (.int (nI (16 * q + a + 2 * t))), lv8, lv9] [] M := by
    intro q a m y hq ham hal K r
    induction r with
    | zero =>
      intro t lv8 lv9 htr hok
      obtain rfl : t = m := by omega
      refine z_iload F dX8_seen_124 rfl ?_
      refine z_bipush (v := 16) F dX8_seen_126 (by decide) ?_
      refine z_iload_n F dX8_seen_128 rfl ?_
      refine z_imul F dX8_seen_129 ?_
      refine z_iload_n F dX8_seen_130 rfl ?_
      refine z_iadd F dX8_seen_131 ?_
      refine z_iconst (v := 2) F dX8_seen_132 (by decide) ?_
      refine z_iload F dX8_seen_133 rfl ?_
      refine z_imul F dX8_seen_135 ?_
      refine z_iadd F dX8_seen_136 ?_
      refine z_ic_ge (tgt := 226) F dX8_seen_137 (by decide) (fun h_137 => ?_) (fun h_137 => absurd h_137 (by simp only [n16, n2, nI_add]; exact Int32.not_lt.mpr (Int32.le_refl _)))
      exact K _ _
    | succ r ih =>
      intro t lv8 lv9 htr hok
      have g1 := allIn_at hal (a + 2 * t) (by omega) (by omega)
      have g2 := allIn_at hal (a + 2 * t + 1) (by omega) (by omega)
      rw [hnt] at g1 g2
      obtain ⟨j1, hj1, e1⟩ := l_in g1 h10
      obtain ⟨j2, hj2, e2⟩ := l_in g2 h10
      have ea : M.2 (o + 14) (16 * q + a + 2 * t) = M.2 (o + 14) (16 * q + (a + 2 * t)) := by rw [Nat.add_assoc]
      have eb : M.2 (o + 14) (16 * q + a + 2 * t + 1) = M.2 (o + 14) (16 * q + (a + 2 * t + 1)) := by rw [Nat.add_assoc, Nat.add_assoc, Nat.add_assoc]
      refine z_iload F dX8_seen_124 rfl ?_
      refine z_bipush (v := 16) F dX8_seen_126 (by decide) ?_
      refine z_iload_n F dX8_seen_128 rfl ?_
      refine z_imul F dX8_seen_129 ?_
      refine z_iload_n F dX8_seen_130 rfl ?_
      refine z_iadd F dX8_seen_131 ?_
      refine z_iconst (v := 2) F dX8_seen_132 (by decide) ?_
      refine z_iload F dX8_seen_133 rfl ?_
      refine z_imul F dX8_seen_135 ?_
      refine z_iadd F dX8_seen_136 ?_
      refine z_ic_ge (tgt := 226) F dX8_seen_137 (by decide) (fun h_137 => absurd h_137 (by simp only [n16, n2, nI_add]; exact nI_ge (by omega) (by omega))) (fun h_137 => ?_)
      refine z_aload_n F dX8_seen_140 rfl ?_
      refine zg_X8_items F (by with_reducible assumption) fl_X8_49 dX8_seen_141 (fun hk_141 => ?_)
      refine z_iload F dX8_seen_144 rfl ?_
      refine z_lald14n (q := (16*q+a+2*t)) F (by with_reducible assumption) (by first | with_reducible rfl | (simp only [n4, n2, n3, n5, n14, n16, na1, na2, na3, nI_add, nI_1, nI_pred]; done) | (simp only [n4, n2, n3, n5, n14, n16, na1, na2, na3, nI_add, nI_1, nI_pred, Nat.add_assoc, Nat.add_comm, Nat.add_left_comm]; done)) (by rw [hz14]; omega) dX8_seen_146 ?_
      refine z_l2i F dX8_seen_147 ?_
      rw [ea]
      rw [show (M.2 (o + 14) (16 * q + (a + 2 * t))).toInt32 = nI j1 from e1]
      refine z_istore (lv' := [_, _, _, _, _, _, _, _, _, _]) F dX8_seen_148 (by decide) rfl rfl ?_
      refine z_aload_n F dX8_seen_150 rfl ?_
      refine zg_X8_items F (by with_reducible assumption) fl_X8_49 dX8_seen_151 (fun hk_151 => ?_)
      refine z_iload F dX8_seen_154 rfl ?_
      refine z_iconst (v := 1) F dX8_seen_156 (by decide) ?_
      refine z_iadd F dX8_seen_157 ?_
      refine z_lald14n (q := ((16*q+a+2*t) + 1)) F (by with_reducible assumption) (by first | with_reducible rfl | (simp only [n4, n2, n3, n5, n14, n16, na1, na2, na3, nI_add, nI_1, nI_pred]; done) | (simp only [n4, n2, n3, n5, n14, n16, na1, na2, na3, nI_add, nI_1, nI_pred, Nat.add_assoc, Nat.add_comm, Nat.add_left_comm]; done)) (by rw [hz14]; omega) dX8_seen_158 ?_
      refine z_l2i F dX8_seen_159 ?_
      rw [eb]
      rw [show (M.2 (o + 14) (16 * q + (a + 2 * t + 1))).toInt32 = nI j2 from e2]
      refine z_istore (lv' := [_, _, _, _, _, _, _, _, _, _]) F dX8_seen_160 (by decide) rfl rfl ?_
      refine z_iload F dX8_seen_162 rfl ?_
      refine z_aload_n F dX8_seen_164 rfl ?_
      refine z_iload F dX8_seen_165 rfl ?_
      refine z_iconst (v := 0) F dX8_seen_167 (by decide) ?_
      refine z_iconst (v := 0) F dX8_seen_168 (by decide) ?_
      refine z_callVi F (c_X8_feels J (j := j1) hk ho (by omega) kd) zm_X8_feels zv_X8_feels ml_X8_99 (by with_reducible assumption) (by decide) rfl rfl rfl (Nat.le_of_ble_eq_true rfl) dX8_seen_169 (by omega) (fun r_169 M_169 h_169 => ?_)
      obtain ⟨e_169, rfl⟩ := h_169
      replace e_169 := Eq.symm e_169
      subst e_169
      refine z_aload_n F dX8_seen_172 rfl ?_
      refine z_iload F dX8_seen_173 rfl ?_
      refine z_iconst (v := 0) F dX8_seen_175 (by decide) ?_
      refine z_iconst (v := 0) F dX8_seen_176 (by decide) ?_
      refine z_callVi F (c_X8_feels J (j := j2) hk ho (by omega) kd) zm_X8_feels zv_X8_feels ml_X8_99 (by with_reducible assumption) (by decide) rfl rfl rfl (Nat.le_of_ble_eq_true rfl) dX8_seen_177 (by omega) (fun r_177 M_177 h_177 => ?_)
      obtain ⟨e_177, rfl⟩ := h_177
      replace e_177 := Eq.symm e_177
      subst e_177
      refine z_ic_le (tgt := 187) F dX8_seen_180 (by decide) (fun h_180 => ?_) (fun h_180 => ?_)
      · refine z_iconst (v := 2) F dX8_seen_187 (by decide) ?_
        refine z_iand F dX8_seen_188 ?_
        refine z_istore (lv' := [_, _, _, _, _, _, _, _, _, _]) F dX8_seen_189 (by decide) rfl rfl ?_
        refine z_iload F dX8_seen_191 rfl ?_
        refine z_aload_n F dX8_seen_193 rfl ?_
        refine z_iload F dX8_seen_194 rfl ?_
        refine z_iconst (v := 0) F dX8_seen_196 (by decide) ?_
        refine z_iconst (v := 1) F dX8_seen_197 (by decide) ?_
        refine z_callVi F (c_X8_feels J (j := j1) hk ho (by omega) kd) zm_X8_feels zv_X8_feels ml_X8_99 (by with_reducible assumption) (by decide) rfl rfl rfl (Nat.le_of_ble_eq_true rfl) dX8_seen_198 (by omega) (fun r_198 M_198 h_198 => ?_)
        obtain ⟨e_198, rfl⟩ := h_198
        replace e_198 := Eq.symm e_198
        subst e_198
        refine z_aload_n F dX8_seen_201 rfl ?_
        refine z_iload F dX8_seen_202 rfl ?_
        refine z_iconst (v := 0) F dX8_seen_204 (by decide) ?_
        refine z_iconst (v := 1) F dX8_seen_205 (by decide) ?_
        refine z_callVi F (c_X8_feels J (j := j2) hk ho (by omega) kd) zm_X8_feels zv_X8_feels ml_X8_99 (by with_reducible assumption) (by decide) rfl rfl rfl (Nat.le_of_ble_eq_true rfl) dX8_seen_206 (by omega) (fun r_206 M_206 h_206 => ?_)
        obtain ⟨e_206, rfl⟩ := h_206
        replace e_206 := Eq.symm e_206
        subst e_206
        refine z_ic_le (tgt := 216) F dX8_seen_209 (by decide) (fun h_209 => ?_) (fun h_209 => ?_)
        · refine z_iconst (v := 1) F dX8_seen_216 (by decide) ?_
          refine z_iand F dX8_seen_217 ?_
          refine z_istore (lv' := [_, _, _, _, _, _, _, _, _, _]) F dX8_seen_218 (by decide) rfl rfl ?_
          refine z_iincc (c := 2) (lv' := [_, _, _, _, _, _, _, _, _, _]) F dX8_seen_220 rfl (by decide) (by decide) rfl rfl ?_
          refine z_goto (tgt := 124) F dX8_seen_223 (by decide) ?_
          have Q := ih (t + 1) (some (.int (nI j1))) (some (.int (nI j2))) (by omega) rfl
          rw [seenL_s, show 16 * q + a + 2 * (t + 1) = 16 * q + a + 2 * t + 2 by omega] at Q
          simp only [e1, e2, nI_clamp (show j1 < 2 ^ 31 by omega), nI_clamp (show j2 < 2 ^ 31 by omega), mindsF] at Q
          rw [← mind_and] at Q
          rw [show nI (16 * q + a + 2 * t) + 2 = nI (16 * q + a + 2 * t + 2) from nI_add _ 2]
          first | (rw [if_pos h_180, if_pos h_209] at Q; exact Q) | (rw [if_pos h_180, if_neg (nlt h_209)] at Q; exact Q) | (rw [if_neg (nlt h_180), if_pos h_209] at Q; exact Q) | (rw [if_neg (nlt h_180), if_neg (nlt h_209)] at Q; exact Q)
        · refine z_iconst (v := 3) F dX8_seen_212 (by decide) ?_
          refine z_goto (tgt := 217) F dX8_seen_213 (by decide) ?_
          refine z_iand F dX8_seen_217 ?_
          refine z_istore (lv' := [_, _, _, _, _, _, _, _, _, _]) F dX8_seen_218 (by decide) rfl rfl ?_
          refine z_iincc (c := 2) (lv' := [_, _, _, _, _, _, _, _, _, _]) F dX8_seen_220 rfl (by decide) (by decide) rfl rfl ?_
          refine z_goto (tgt := 124) F dX8_seen_223 (by decide) ?_
          have Q := ih (t + 1) (some (.int (nI j1))) (some (.int (nI j2))) (by omega) rfl
          rw [seenL_s, show 16 * q + a + 2 * (t + 1) = 16 * q + a + 2 * t + 2 by omega] at Q
          simp only [e1, e2, nI_clamp (show j1 < 2 ^ 31 by omega), nI_clamp (show j2 < 2 ^ 31 by omega), mindsF] at Q
          rw [← mind_and] at Q
          rw [show nI (16 * q + a + 2 * t) + 2 = nI (16 * q + a + 2 * t + 2) from nI_add _ 2]
          first | (rw [if_pos h_180, if_pos h_209] at Q; exact Q) | (rw [if_pos h_180, if_neg (nlt h_209)] at Q; exact Q) | (rw [if_neg (nlt h_180), if_pos h_209] at Q; exact Q) | (rw [if_neg (nlt h_180), if_neg (nlt h_209)] at Q; exact Q)
      · refine z_iconst (v := 3) F dX8_seen_183 (by decide) ?_
        refine z_goto (tgt := 188) F dX8_seen_184 (by decide) ?_
        refine z_iand F dX8_seen_188 ?_
        refine z_istore (lv' := [_, _, _, _, _, _, _, _, _, _]) F dX8_seen_189 (by decide) rfl rfl ?_
        refine z_iload F dX8_seen_191 rfl ?_
        refine z_aload_n F dX8_seen_193 rfl ?_
        refine z_iload F dX8_seen_194 rfl ?_
        refine z_iconst (v := 0) F dX8_seen_196 (by decide) ?_
        refine z_iconst (v := 1) F dX8_seen_197 (by decide) ?_
        refine z_callVi F (c_X8_feels J (j := j1) hk ho (by omega) kd) zm_X8_feels zv_X8_feels ml_X8_99 (by with_reducible assumption) (by decide) rfl rfl rfl (Nat.le_of_ble_eq_true rfl) dX8_seen_198 (by omega) (fun r_198 M_198 h_198 => ?_)
        obtain ⟨e_198, rfl⟩ := h_198
        replace e_198 := Eq.symm e_198
        subst e_198
        refine z_aload_n F dX8_seen_201 rfl ?_
        refine z_iload F dX8_seen_202 rfl ?_
        refine z_iconst (v := 0) F dX8_seen_204 (by decide) ?_
        refine z_iconst (v := 1) F dX8_seen_205 (by decide) ?_
        refine z_callVi F (c_X8_feels J (j := j2) hk ho (by omega) kd) zm_X8_feels zv_X8_feels ml_X8_99 (by with_reducible assumption) (by decide) rfl rfl rfl (Nat.le_of_ble_eq_true rfl) dX8_seen_206 (by omega) (fun r_206 M_206 h_206 => ?_)
        obtain ⟨e_206, rfl⟩ := h_206
        replace e_206 := Eq.symm e_206
        subst e_206
        refine z_ic_le (tgt := 216) F dX8_seen_209 (by decide) (fun h_209 => ?_) (fun h_209 => ?_)
        · refine z_iconst (v := 1) F dX8_seen_216 (by decide) ?_
          refine z_iand F dX8_seen_217 ?_
          refine z_istore (lv' := [_, _, _, _, _, _, _, _, _, _]) F dX8_seen_218 (by decide) rfl rfl ?_
          refine z_iincc (c := 2) (lv' := [_, _, _, _, _, _, _, _, _, _]) F dX8_seen_220 rfl (by decide) (by decide) rfl rfl ?_
          refine z_goto (tgt := 124) F dX8_seen_223 (by decide) ?_
          have Q := ih (t + 1) (some (.int (nI j1))) (some (.int (nI j2))) (by omega) rfl
          rw [seenL_s, show 16 * q + a + 2 * (t + 1) = 16 * q + a + 2 * t + 2 by omega] at Q
          simp only [e1, e2, nI_clamp (show j1 < 2 ^ 31 by omega), nI_clamp (show j2 < 2 ^ 31 by omega), mindsF] at Q
          rw [← mind_and] at Q
          rw [show nI (16 * q + a + 2 * t) + 2 = nI (16 * q + a + 2 * t + 2) from nI_add _ 2]
          first | (rw [if_pos h_180, if_pos h_209] at Q; exact Q) | (rw [if_pos h_180, if_neg (nlt h_209)] at Q; exact Q) | (rw [if_neg (nlt h_180), if_pos h_209] at Q; exact Q) | (rw [if_neg (nlt h_180), if_neg (nlt h_209)] at Q; exact Q)
        · refine z_iconst (v := 3) F dX8_seen_212 (by decide) ?_
          refine z_goto (tgt := 217) F dX8_seen_213 (by decide) ?_
          refine z_iand F dX8_seen_217 ?_
          refine z_istore (lv' := [_, _, _, _, _, _, _, _, _, _]) F dX8_seen_218 (by decide) rfl rfl ?_
          refine z_iincc (c := 2) (lv' := [_, _, _, _, _, _, _, _, _, _]) F dX8_seen_220 rfl (by decide) (by decide) rfl rfl ?_
          refine z_goto (tgt := 124) F dX8_seen_223 (by decide) ?_
          have Q := ih (t + 1) (some (.int (nI j1))) (some (.int (nI j2))) (by omega) rfl
          rw [seenL_s, show 16 * q + a + 2 * (t + 1) = 16 * q + a + 2 * t + 2 by omega] at Q
          simp only [e1, e2, nI_clamp (show j1 < 2 ^ 31 by omega), nI_clamp (show j2 < 2 ^ 31 by omega), mindsF] at Q
          rw [← mind_and] at Q
          rw [show nI (16 * q + a + 2 * t) + 2 = nI (16 * q + a + 2 * t + 2) from nI_add _ 2]
          first | (rw [if_pos h_180, if_pos h_209] at Q; exact Q) | (rw [if_pos h_180, if_neg (nlt h_209)] at Q; exact Q) | (rw [if_neg (nlt h_180), if_pos h_209] at Q; exact Q) | (rw [if_neg (nlt h_180), if_neg (nlt h_209)] at Q; exact Q)
  have key1 : ∀ (q a m : Nat) (y : Int32), q < 4 → a + 2 * m ≤ 16 → (¬ allIn (fun k => M.2 (o + 14) (16 * q + k)) (M.1 o 0) (2 * m) a → ∀ lv, ZW w g 10 107 lv [] M) → (allIn (fun k => M.2 (o + 14) (16 * q + k)) (M.1 o 0) (2 * m) a → ∀ z, ZW w g 10 116 [some (.ref (w.2.2 o)), some (.int (nI q)), some (.int ln), some (.int (nI a)), some (.int (nI m)), some (.int y), some (.int 3), some (.int z), none, none] [] M) → ∀ (r t : Nat), t + r = m → allIn (fun k => M.2 (o + 14) (16 * q + k)) (M.1 o 0) (2 * t) a → ZW w g 10 61 [some (.ref (w.2.2 o)), some (.int (nI q)), some (.int ln), some (.int (nI a)), some (.int (nI m)), some (.int y), some (.int 3), some (.int (nI (16 * q + a + 2 * t))), none, none] [] M := by
    intro q a m y hq ham K2 K r
    induction r with
    | zero =>
      intro t htr hal
      obtain rfl : t = m := by omega
      refine z_iload F dX8_seen_61 rfl ?_
      refine z_bipush (v := 16) F dX8_seen_63 (by decide) ?_
      refine z_iload_n F dX8_seen_65 rfl ?_
      refine z_imul F dX8_seen_66 ?_
      refine z_iload_n F dX8_seen_67 rfl ?_
      refine z_iadd F dX8_seen_68 ?_
      refine z_iconst (v := 2) F dX8_seen_69 (by decide) ?_
      refine z_iload F dX8_seen_70 rfl ?_
      refine z_imul F dX8_seen_72 ?_
      refine z_iadd F dX8_seen_73 ?_
      refine z_ic_ge (tgt := 116) F dX8_seen_74 (by decide) (fun h_74 => ?_) (fun h_74 => absurd h_74 (by simp only [n16, n2, nI_add]; exact Int32.not_lt.mpr (Int32.le_refl _)))
      exact K hal _
    | succ r ih =>
      intro t htr hal
      have ea : M.2 (o + 14) (16 * q + a + 2 * t) = M.2 (o + 14) (16 * q + (a + 2 * t)) := by rw [Nat.add_assoc]
      have eb : M.2 (o + 14) (16 * q + a + 2 * t + 1) = M.2 (o + 14) (16 * q + (a + 2 * t + 1)) := by rw [Nat.add_assoc, Nat.add_assoc, Nat.add_assoc]
      refine z_iload F dX8_seen_61 rfl ?_
      refine z_bipush (v := 16) F dX8_seen_63 (by decide) ?_
      refine z_iload_n F dX8_seen_65 rfl ?_
      refine z_imul F dX8_seen_66 ?_
      refine z_iload_n F dX8_seen_67 rfl ?_
      refine z_iadd F dX8_seen_68 ?_
      refine z_iconst (v := 2) F dX8_seen_69 (by decide) ?_
      refine z_iload F dX8_seen_70 rfl ?_
      refine z_imul F dX8_seen_72 ?_
      refine z_iadd F dX8_seen_73 ?_
      refine z_ic_ge (tgt := 116) F dX8_seen_74 (by decide) (fun h_74 => absurd h_74 (by simp only [n16, n2, nI_add]; exact nI_ge (by omega) (by omega))) (fun h_74 => ?_)
      refine z_aload_n F dX8_seen_77 rfl ?_
      refine z_aload_n F dX8_seen_78 rfl ?_
      refine zg_X8_items F (by with_reducible assumption) fl_X8_49 dX8_seen_79 (fun hk_79 => ?_)
      refine z_iload F dX8_seen_82 rfl ?_
      refine z_lald14n (q := (16*q+a+2*t)) F (by with_reducible assumption) (by first | with_reducible rfl | (simp only [n4, n2, n3, n5, n14, n16, na1, na2, na3, nI_add, nI_1, nI_pred]; done) | (simp only [n4, n2, n3, n5, n14, n16, na1, na2, na3, nI_add, nI_1, nI_pred, Nat.add_assoc, Nat.add_comm, Nat.add_left_comm]; done)) (by rw [hz14]; omega) dX8_seen_84 ?_
      refine z_callVi F (c_X8_isThing J hk hnt h10) zm_X8_isThing zv_X8_isThing ml_X8_89 (by with_reducible assumption) (by decide) rfl rfl rfl (Nat.le_of_ble_eq_true rfl) dX8_seen_85 (by omega) (fun r_85 M_85 h_85 => ?_)
      obtain ⟨e_85, rfl⟩ := h_85
      replace e_85 := Eq.symm e_85
      subst e_85
      refine z_if_eq (tgt := 107) F dX8_seen_88 (by decide) (fun h_88 => ?_) (fun h_88 => ?_)
      · replace h_88 := bI_0.mp h_88
        rw [ea] at h_88
        exact K2 (fun z => allIn_n z (show a ≤ a + 2 * t by omega) (by omega) h_88) _
      · replace h_88 := bI_1.mp h_88
        refine z_aload_n F dX8_seen_91 rfl ?_
        refine z_aload_n F dX8_seen_92 rfl ?_
        refine zg_X8_items F (by with_reducible assumption) fl_X8_49 dX8_seen_93 (fun hk_93 => ?_)
        refine z_iload F dX8_seen_96 rfl ?_
        refine z_iconst (v := 1) F dX8_seen_98 (by decide) ?_
        refine z_iadd F dX8_seen_99 ?_
        refine z_lald14n (q := ((16*q+a+2*t) + 1)) F (by with_reducible assumption) (by first | with_reducible rfl | (simp only [n4, n2, n3, n5, n14, n16, na1, na2, na3, nI_add, nI_1, nI_pred]; done) | (simp only [n4, n2, n3, n5, n14, n16, na1, na2, na3, nI_add, nI_1, nI_pred, Nat.add_assoc, Nat.add_comm, Nat.add_left_comm]; done)) (by rw [hz14]; omega) dX8_seen_100 ?_
        refine z_callVi F (c_X8_isThing J hk hnt h10) zm_X8_isThing zv_X8_isThing ml_X8_89 (by with_reducible assumption) (by decide) rfl rfl rfl (Nat.le_of_ble_eq_true rfl) dX8_seen_101 (by omega) (fun r_101 M_101 h_101 => ?_)
        obtain ⟨e_101, rfl⟩ := h_101
        replace e_101 := Eq.symm e_101
        subst e_101
        refine z_if_ne (tgt := 110) F dX8_seen_104 (by decide) (fun h_104 => ?_) (fun h_104 => ?_)
        · replace h_104 := bI_1.mp h_104
          refine z_iincc (c := 2) (lv' := [_, _, _, _, _, _, _, _, _, _]) F dX8_seen_110 rfl (by decide) (by decide) rfl rfl ?_
          refine z_goto (tgt := 61) F dX8_seen_113 (by decide) ?_
          rw [ea] at h_88
          rw [eb] at h_104
          have Q := ih (t + 1) (by omega) (allIn_2 t a hal h_88 h_104)
          rw [show 16 * q + a + 2 * (t + 1) = 16 * q + a + 2 * t + 2 by omega] at Q
          rw [show nI (16 * q + a + 2 * t) + 2 = nI (16 * q + a + 2 * t + 2) from nI_add _ 2]
          exact Q
        · replace h_104 := bI_0.mp h_104
          rw [eb] at h_104
          exact K2 (fun z => allIn_n z (show a ≤ a + 2 * t + 1 by omega) (by omega) h_104) _
  refine z_iload_n F dX8_seen_0 rfl ?_
  refine z_callSi F (c_X8_isSheet J) zm_X8_isSheet zst_X8_isSheet ml_X8_227 rfl rfl (Nat.le_of_ble_eq_true rfl) dX8_seen_1 (by omega) (fun r_1 M_1 h_1 => ?_)
  obtain ⟨e_1, rfl⟩ := h_1
  replace e_1 := Eq.symm e_1
  subst e_1
  refine z_if_eq (tgt := 27) F dX8_seen_4 (by decide) (fun h_4 => ?_) (fun h_4 => ?_)
  · replace h_4 := bI_0.mp h_4
    refine z_iconst (v := (-1)) F dX8_seen_27 (by decide) ?_
    refine z_iret F X dX8_seen_28 ?_
    exact ⟨rfl, Or.inl ⟨Or.inl (Or.inl (Classical.not_not.mp h_4)), rfl⟩⟩
  · replace h_4 := bI_1.mp h_4
    refine z_iload_n F dX8_seen_7 rfl ?_
    refine z_callSi F (c_X8_isLane J) zm_X8_isLane zst_X8_isLane ml_X8_230 rfl rfl (Nat.le_of_ble_eq_true rfl) dX8_seen_8 (by omega) (fun r_8 M_8 h_8 => ?_)
    obtain ⟨e_8, rfl⟩ := h_8
    replace e_8 := Eq.symm e_8
    subst e_8
    refine z_if_eq (tgt := 27) F dX8_seen_11 (by decide) (fun h_11 => ?_) (fun h_11 => ?_)
    · replace h_11 := bI_0.mp h_11
      refine z_iconst (v := (-1)) F dX8_seen_27 (by decide) ?_
      refine z_iret F X dX8_seen_28 ?_
      exact ⟨rfl, Or.inl ⟨Or.inl (Or.inr (Classical.not_not.mp h_11)), rfl⟩⟩
    · replace h_11 := bI_1.mp h_11
      refine z_iload F dX8_seen_14 rfl ?_
      refine z_i2l F dX8_seen_16 ?_
      refine z_lconst (v := 1) F dX8_seen_17 (by decide) ?_
      refine z_ldc2 F dX8_seen_18 cl_X8_233 ?_
      refine z_callSi F (d_X8_in J (a := 1) (b := 8) (by decide) (by decide)) zm_X8_in zst_X8_in ml_X8_72 rfl rfl (Nat.le_of_ble_eq_true rfl) dX8_seen_21 (by omega) (fun r_21 M_21 h_21 => ?_)
      obtain ⟨e_21, rfl⟩ := h_21
      replace e_21 := Eq.symm e_21
      subst e_21
      refine z_if_ne (tgt := 29) F dX8_seen_24 (by decide) (fun h_24 => ?_) (fun h_24 => ?_)
      · replace h_24 := bI_1.mp h_24
        obtain ⟨q, hq, rfl⟩ := s4_in h_4
        refine z_aload_n F dX8_seen_29 rfl ?_
        refine z_iload_n F dX8_seen_30 rfl ?_
        refine z_iload_n F dX8_seen_31 rfl ?_
        refine z_iload_n F dX8_seen_32 rfl ?_
        refine z_iconst (v := 2) F dX8_seen_33 (by decide) ?_
        refine z_iload F dX8_seen_34 rfl ?_
        refine z_imul F dX8_seen_36 ?_
        refine z_callVi F (c_X8_why J hk ho hq) zm_X8_why zv_X8_why ml_X8_235 (by with_reducible assumption) (by decide) rfl rfl rfl (Nat.le_of_ble_eq_true rfl) dX8_seen_37 (by omega) (fun r_37 M_37 h_37 => ?_)
        obtain ⟨e_37, rfl⟩ := h_37
        replace e_37 := Eq.symm e_37
        subst e_37
        refine z_istore (lv' := [_, _, _, _, _, _, _, _, _, _]) F dX8_seen_40 (by decide) rfl rfl ?_
        refine z_iload F dX8_seen_42 rfl ?_
        refine z_if_ge (tgt := 50) F dX8_seen_44 (by decide) (fun h_44 => ?_) (fun h_44 => ?_)
        · have hbad : ¬ (((nI q < 0 ∨ 3 < nI q) ∨ (ln < 0 ∨ 3 < ln)) ∨ (n < 1 ∨ 8 < n)) := fun z => z.elim (fun z => z.elim h_4 h_11) (by grind)
          obtain ⟨m, hm8, rfl⟩ := nI_of2 (M := 8) (n := 8) (x := n) (by decide) (by grind) (by grind)
          have h44 := nlt h_44
          have h45 := h44
          rw [n2] at h45
          obtain ⟨L, hL, hB⟩ := hS q hq
          obtain ⟨a, rfl, haL⟩ := why_ok2 (by omega) hB hL h45
          refine z_iconst (v := 3) F dX8_seen_50 (by decide) ?_
          refine z_istore (lv' := [_, _, _, _, _, _, _, _, _, _]) F dX8_seen_51 (by decide) rfl rfl ?_
          refine z_bipush (v := 16) F dX8_seen_53 (by decide) ?_
          refine z_iload_n F dX8_seen_55 rfl ?_
          refine z_imul F dX8_seen_56 ?_
          refine z_iload_n F dX8_seen_57 rfl ?_
          refine z_iadd F dX8_seen_58 ?_
          refine z_istore (lv' := [_, _, _, _, _, _, _, _, _, _]) F dX8_seen_59 (by decide) rfl rfl ?_
          have Q := key1 q a m (whyF (M.1 (o + 12) q) (M.1 (o + 13) q) ln (nI a) (2 * nI m)) hq (by omega) ?_ ?_ m 0 (by omega) trivial
          · rw [n16, nI_add]
            exact Q
          · intro hal lv
            refine z_bipush (v := -2) F dX8_seen_107 (by decide) ?_
            refine z_iret F X dX8_seen_109 ?_
            exact ⟨rfl, Or.inr ⟨hbad, q, hq, rfl, Or.inr ⟨h44, a, m, rfl, rfl, by omega, Or.inl ⟨hal, rfl⟩⟩⟩⟩
          · intro hal z
            refine z_bipush (v := 16) F dX8_seen_116 (by decide) ?_
            refine z_iload_n F dX8_seen_118 rfl ?_
            refine z_imul F dX8_seen_119 ?_
            refine z_iload_n F dX8_seen_120 rfl ?_
            refine z_iadd F dX8_seen_121 ?_
            refine z_istore (lv' := [_, _, _, _, _, _, _, _, _, _]) F dX8_seen_122 (by decide) rfl rfl ?_
            rw [n16, nI_add]
            refine key2 q a m _ hq (by omega) hal ?_ m 0 none none (by omega) rfl
            intro lv8 lv9
            refine z_iload F dX8_seen_226 rfl ?_
            refine z_iret F X dX8_seen_228 ?_
            exact ⟨rfl, Or.inr ⟨hbad, q, hq, rfl, Or.inr ⟨h44, a, m, rfl, rfl, by omega, Or.inr ⟨hal, rfl⟩⟩⟩⟩
        · refine z_iload F dX8_seen_47 rfl ?_
          refine z_iret F X dX8_seen_49 ?_
          exact ⟨rfl, Or.inr ⟨fun z => z.elim (fun z => z.elim h_4 h_11) (by grind), q, hq, rfl, Or.inl ⟨h_44, rfl⟩⟩⟩
      · replace h_24 := bI_0.mp h_24
        refine z_iconst (v := (-1)) F dX8_seen_27 (by decide) ?_
        refine z_iret F X dX8_seen_28 ?_
        exact ⟨rfl, Or.inl ⟨Or.inr (by grind), rfl⟩⟩
end
section
/-! one of the two who meet takes his turn -/
theorem va_g {α : Type} (f : Nat → α) (k : Nat) (v : α) (j : Nat) : va_up f k v j = if j = k then v else f j := rfl
abbrev trnM (th T : zF1) (a : Nat) : Prop := feltF th (T a).toNatClampNeg 0 (T (a + 1) + 1) < feltF th (T a).toNatClampNeg 1 (T (a + 1) + 1)
def trnm (th T : zF1) (a : Nat) : Int32 := if trnM th T a then 1 else 0
abbrev trnP (th T : zF1) (a b : Nat) : Prop := feltF th (T b).toNatClampNeg (trnm th T a) 0 < (if trnM th T a then feltF th (T a).toNatClampNeg 1 (T (a + 1) + 1) else feltF th (T a).toNatClampNeg 0 (T (a + 1) + 1)) ∧ wrt th (T a) - wrt th (T b) ≤ T (a + 3)
def trn1 (th T : zF1) (a : Nat) : zF1 := va_up (va_up T (a + 1) (T (a + 1) + 1)) (a + 2) (trnm th T a)
def trnF (th T : zF1) (a b : Nat) : zF1 := if trnP th T a b then va_up (va_up (va_up (va_up (trn1 th T a) a (T b)) b (T a)) (a + 1) 0) (b + 1) 0 else trn1 th T a
theorem c_X8_turnsA {l : Launch} {w : zE} (J : zJ w) {M : zM} {o j1 j2 : Nat} (hk : zk o = 8) (ho : o = 138) (kd : kdOK (M.1 (o + 1))) (h1 : j1 < 10) (h2 : j2 < 10) (hA : M.1 (o + 10) 0 = nI j1) (hB : M.1 (o + 10) 4 = nI j2) : zCi l w yX8_turns cX8_turns 8 (some .boolean) 1 [.ref (w.2.2 o), .int 0, .int 4] M (fun r M2 => M2 = za M (o + 10) (trnF (M.1 (o + 1)) (M.1 (o + 10)) 0 4) ∧ r = bI (trnP (M.1 (o + 1)) (M.1 (o + 10)) 0 4)) := by
  obtain ⟨hz1, hz2, hz3, hz4, hz5, hz6, hz7, hz8, hz9, hz10, hz11, hz12, hz13, hz14, hz15⟩ := zn8 ho
  have e1 : ∀ (f : zF1), (za M (o + 10) f).1 (o + 1) = M.1 (o + 1) := fun f => za_off _ (by omega)
  have c1 : (nI j1).toNatClampNeg = j1 := nI_clamp (by omega)
  have c2 : (nI j2).toNatClampNeg = j2 := nI_clamp (by omega)
  have hMi : trnM (M.1 (o + 1)) (M.1 (o + 10)) 0 ↔ feltF (M.1 (o + 1)) j1 0 (M.1 (o + 10) 1 + 1) < feltF (M.1 (o + 1)) j1 1 (M.1 (o + 10) 1 + 1) := by unfold trnM; rw [hA, c1]
  have eM : M = za M (o + 10) (M.1 (o + 10)) := (za_self _ _).symm
  refine zCi_of J zm_X8_turns [some (.ref (w.2.2 o)), some (.int 0), some (.int 4), none, none, none, none, none] (Nat.le_of_ble_eq_true rfl) rfl (fun g hg F X => ?_)
  subst hg
  rw [eM]
  refine z_aload_n F dX8_turns_0 rfl ?_
  refine zg_X8_two F (by with_reducible assumption) fl_X8_37 dX8_turns_1 (fun hk_1 => ?_)
  refine z_iload_n F dX8_turns_4 rfl ?_
  refine z_iconst (v := 1) F dX8_turns_5 (by decide) ?_
  refine z_iadd F dX8_turns_6 ?_
  refine z_dup2 F dX8_turns_7 rfl rfl ?_
  refine z_iald10n (q := 1) F (by with_reducible assumption) (by decide) (by rw [hz10]; omega) dX8_turns_8 ?_
  try simp +decide only [zs_zaa, za_at, va_g, if_true, if_false, hA, hB]
  refine z_iconst (v := 1) F dX8_turns_9 (by decide) ?_
  refine z_iadd F dX8_turns_10 ?_
  refine z_iast10n (q := 1) F (by with_reducible assumption) (by decide) (by rw [hz10]; omega) dX8_turns_11 ?_
  refine z_aload_n F dX8_turns_12 rfl ?_
  refine z_aload_n F dX8_turns_13 rfl ?_
  refine zg_X8_two F (by with_reducible assumption) fl_X8_37 dX8_turns_14 (fun hk_14 => ?_)
  refine z_iload_n F dX8_turns_17 rfl ?_
  refine z_iald10n (q := 0) F (by with_reducible assumption) (by decide) (by rw [hz10]; omega) dX8_turns_18 ?_
  try simp +decide only [zs_zaa, za_at, va_g, if_true, if_false, hA, hB]
  refine z_aload_n F dX8_turns_19 rfl ?_
  refine zg_X8_two F (by with_reducible assumption) fl_X8_37 dX8_turns_20 (fun hk_20 => ?_)
  refine z_iload_n F dX8_turns_23 rfl ?_
  refine z_iconst (v := 1) F dX8_turns_24 (by decide) ?_
  refine z_iadd F dX8_turns_25 ?_
  refine z_iald10n (q := 1) F (by with_reducible assumption) (by decide) (by rw [hz10]; omega) dX8_turns_26 ?_
  try simp +decide only [zs_zaa, za_at, va_g, if_true, if_false, hA, hB]
  refine z_iconst (v := 0) F dX8_turns_27 (by decide) ?_
  refine z_callVi F (c_X8_feels J (j := j1) hk ho h1 (by rw [e1]; exact kd)) zm_X8_feels zv_X8_feels ml_X8_99 (by with_reducible assumption) (by decide) rfl rfl rfl (Nat.le_of_ble_eq_true rfl) dX8_turns_28 (by omega) (fun r_28 M_28 h_28 => ?_)
  obtain ⟨e_28, f_28⟩ := h_28
  rw [e1] at f_28
  subst f_28
  replace e_28 := Eq.symm e_28
  subst e_28
  refine z_istore_n (lv' := [_, _, _, _, _, _, _, _]) F dX8_turns_31 (by decide) rfl rfl ?_
  refine z_aload_n F dX8_turns_32 rfl ?_
  refine z_aload_n F dX8_turns_33 rfl ?_
  refine zg_X8_two F (by with_reducible assumption) fl_X8_37 dX8_turns_34 (fun hk_34 => ?_)
  refine z_iload_n F dX8_turns_37 rfl ?_
  refine z_iald10n (q := 0) F (by with_reducible assumption) (by decide) (by rw [hz10]; omega) dX8_turns_38 ?_
  try simp +decide only [zs_zaa, za_at, va_g, if_true, if_false, hA, hB]
  refine z_aload_n F dX8_turns_39 rfl ?_
  refine zg_X8_two F (by with_reducible assumption) fl_X8_37 dX8_turns_40 (fun hk_40 => ?_)
  refine z_iload_n F dX8_turns_43 rfl ?_
  refine z_iconst (v := 1) F dX8_turns_44 (by decide) ?_
  refine z_iadd F dX8_turns_45 ?_
  refine z_iald10n (q := 1) F (by with_reducible assumption) (by decide) (by rw [hz10]; omega) dX8_turns_46 ?_
  try simp +decide only [zs_zaa, za_at, va_g, if_true, if_false, hA, hB]
  refine z_iconst (v := 1) F dX8_turns_47 (by decide) ?_
  refine z_callVi F (c_X8_feels J (j := j1) hk ho h1 (by rw [e1]; exact kd)) zm_X8_feels zv_X8_feels ml_X8_99 (by with_reducible assumption) (by decide) rfl rfl rfl (Nat.le_of_ble_eq_true rfl) dX8_turns_48 (by omega) (fun r_48 M_48 h_48 => ?_)
  obtain ⟨e_48, f_48⟩ := h_48
  rw [e1] at f_48
  subst f_48
  replace e_48 := Eq.symm e_48
  subst e_48
  refine z_istore (lv' := [_, _, _, _, _, _, _, _]) F dX8_turns_51 (by decide) rfl rfl ?_
  refine z_aload_n F dX8_turns_53 rfl ?_
  refine zg_X8_two F (by with_reducible assumption) fl_X8_37 dX8_turns_54 (fun hk_54 => ?_)
  refine z_iload_n F dX8_turns_57 rfl ?_
  refine z_iconst (v := 2) F dX8_turns_58 (by decide) ?_
  refine z_iadd F dX8_turns_59 ?_
  refine z_iload_n F dX8_turns_60 rfl ?_
  refine z_iload F dX8_turns_61 rfl ?_
  refine z_ic_lt (tgt := 70) F dX8_turns_63 (by decide) (fun h_63 => ?_) (fun h_63 => ?_)
  · refine z_iconst (v := 1) F dX8_turns_70 (by decide) ?_
    refine z_iast10n (q := 2) F (by with_reducible assumption) (by decide) (by rw [hz10]; omega) dX8_turns_71 ?_
    refine z_iload_n F dX8_turns_72 rfl ?_
    refine z_iload F dX8_turns_73 rfl ?_
    refine z_ic_lt (tgt := 82) F dX8_turns_75 (by decide) (fun h_75 => ?_) (fun h_75 => absurd h_75 (nle h_63))
    refine z_iload F dX8_turns_82 rfl ?_
    refine z_istore (lv' := [_, _, _, _, _, _, _, _]) F dX8_turns_84 (by decide) rfl rfl ?_
    refine z_iload F dX8_turns_86 rfl ?_
    refine z_aload_n F dX8_turns_88 rfl ?_
    refine z_aload_n F dX8_turns_89 rfl ?_
    refine zg_X8_two F (by with_reducible assumption) fl_X8_37 dX8_turns_90 (fun hk_90 => ?_)
    refine z_iload_n F dX8_turns_93 rfl ?_
    refine z_iald10n (q := 4) F (by with_reducible assumption) (by decide) (by rw [hz10]; omega) dX8_turns_94 ?_
    try simp +decide only [zs_zaa, za_at, va_g, if_true, if_false, hA, hB]
    refine z_iconst (v := 0) F dX8_turns_95 (by decide) ?_
    refine z_aload_n F dX8_turns_96 rfl ?_
    refine zg_X8_two F (by with_reducible assumption) fl_X8_37 dX8_turns_97 (fun hk_97 => ?_)
    refine z_iload_n F dX8_turns_100 rfl ?_
    refine z_iconst (v := 2) F dX8_turns_101 (by decide) ?_
    refine z_iadd F dX8_turns_102 ?_
    refine z_iald10n (q := 2) F (by with_reducible assumption) (by decide) (by rw [hz10]; omega) dX8_turns_103 ?_
    try simp +decide only [zs_zaa, za_at, va_g, if_true, if_false, hA, hB]
    refine z_callVi F (c_X8_feels J (j := j2) hk ho h2 (by rw [e1]; exact kd)) zm_X8_feels zv_X8_feels ml_X8_99 (by with_reducible assumption) (by decide) rfl rfl rfl (Nat.le_of_ble_eq_true rfl) dX8_turns_104 (by omega) (fun r_104 M_104 h_104 => ?_)
    obtain ⟨e_104, f_104⟩ := h_104
    rw [e1] at f_104
    subst f_104
    replace e_104 := Eq.symm e_104
    subst e_104
    refine z_ic_le (tgt := 146) F dX8_turns_107 (by decide) (fun h_107 => ?_) (fun h_107 => ?_)
    · refine z_iconst (v := 0) F dX8_turns_146 (by decide) ?_
      refine z_istore (lv' := [_, _, _, _, _, _, _, _]) F dX8_turns_147 (by decide) rfl rfl ?_
      refine z_iload F dX8_turns_149 rfl ?_
      refine z_if_eq (tgt := 200) F dX8_turns_151 (by decide) (fun h_151 => ?_) (fun h_151 => absurd h_151 (by decide))
      refine z_iload F dX8_turns_200 rfl ?_
      refine z_zret F X dX8_turns_202 (by decide) ?_
      try simp only [zs_zaa]
      have hm : trnM (M.1 (o + 1)) (M.1 (o + 10)) 0 := hMi.mpr h_63
      have em : trnm (M.1 (o + 1)) (M.1 (o + 10)) 0 = 1 := if_pos hm
      have hp : ¬ trnP (M.1 (o + 1)) (M.1 (o + 10)) 0 4 := fun z => by
        have z1 := z.1
        rw [em, if_pos hm, hB, c2, hA, c1] at z1
        exact nlt h_107 z1
      refine ⟨?_, bI_f hp⟩
      rw [trnF, if_neg hp, trn1, em]
    · refine z_aload_n F dX8_turns_110 rfl ?_
      refine z_aload_n F dX8_turns_111 rfl ?_
      refine zg_X8_two F (by with_reducible assumption) fl_X8_37 dX8_turns_112 (fun hk_112 => ?_)
      refine z_iload_n F dX8_turns_115 rfl ?_
      refine z_iald10n (q := 0) F (by with_reducible assumption) (by decide) (by rw [hz10]; omega) dX8_turns_116 ?_
      try simp +decide only [zs_zaa, za_at, va_g, if_true, if_false, hA, hB]
      refine z_callVi F (c_X8_worth J (nt := 10) hk ho (Or.inr ⟨j1, h1, rfl⟩) (by decide)) zm_X8_worth zv_X8_worth ml_X8_173 (by with_reducible assumption) (by decide) rfl rfl rfl (Nat.le_of_ble_eq_true rfl) dX8_turns_117 (by omega) (fun r_117 M_117 h_117 => ?_)
      obtain ⟨e_117, f_117⟩ := h_117
      rw [e1] at f_117
      subst f_117
      replace e_117 := Eq.symm e_117
      subst e_117
      refine z_aload_n F dX8_turns_120 rfl ?_
      refine z_aload_n F dX8_turns_121 rfl ?_
      refine zg_X8_two F (by with_reducible assumption) fl_X8_37 dX8_turns_122 (fun hk_122 => ?_)
      refine z_iload_n F dX8_turns_125 rfl ?_
      refine z_iald10n (q := 4) F (by with_reducible assumption) (by decide) (by rw [hz10]; omega) dX8_turns_126 ?_
      try simp +decide only [zs_zaa, za_at, va_g, if_true, if_false, hA, hB]
      refine z_callVi F (c_X8_worth J (nt := 10) hk ho (Or.inr ⟨j2, h2, rfl⟩) (by decide)) zm_X8_worth zv_X8_worth ml_X8_173 (by with_reducible assumption) (by decide) rfl rfl rfl (Nat.le_of_ble_eq_true rfl) dX8_turns_127 (by omega) (fun r_127 M_127 h_127 => ?_)
      obtain ⟨e_127, f_127⟩ := h_127
      rw [e1] at f_127
      subst f_127
      replace e_127 := Eq.symm e_127
      subst e_127
      refine z_isub F dX8_turns_130 ?_
      refine z_aload_n F dX8_turns_131 rfl ?_
      refine zg_X8_two F (by with_reducible assumption) fl_X8_37 dX8_turns_132 (fun hk_132 => ?_)
      refine z_iload_n F dX8_turns_135 rfl ?_
      refine z_iconst (v := 3) F dX8_turns_136 (by decide) ?_
      refine z_iadd F dX8_turns_137 ?_
      refine z_iald10n (q := 3) F (by with_reducible assumption) (by decide) (by rw [hz10]; omega) dX8_turns_138 ?_
      try simp +decide only [zs_zaa, za_at, va_g, if_true, if_false, hA, hB]
      refine z_ic_gt (tgt := 146) F dX8_turns_139 (by decide) (fun h_139 => ?_) (fun h_139 => ?_)
      · refine z_iconst (v := 0) F dX8_turns_146 (by decide) ?_
        refine z_istore (lv' := [_, _, _, _, _, _, _, _]) F dX8_turns_147 (by decide) rfl rfl ?_
        refine z_iload F dX8_turns_149 rfl ?_
        refine z_if_eq (tgt := 200) F dX8_turns_151 (by decide) (fun h_151 => ?_) (fun h_151 => absurd h_151 (by decide))
        refine z_iload F dX8_turns_200 rfl ?_
        refine z_zret F X dX8_turns_202 (by decide) ?_
        try simp only [zs_zaa]
        have hm : trnM (M.1 (o + 1)) (M.1 (o + 10)) 0 := hMi.mpr h_63
        have em : trnm (M.1 (o + 1)) (M.1 (o + 10)) 0 = 1 := if_pos hm
        have hp : ¬ trnP (M.1 (o + 1)) (M.1 (o + 10)) 0 4 := fun z => by
          have z1 := z.2
          rw [hA, hB] at z1
          exact nle h_139 z1
        refine ⟨?_, bI_f hp⟩
        rw [trnF, if_neg hp, trn1, em]
      · refine z_iconst (v := 1) F dX8_turns_142 (by decide) ?_
        refine z_goto (tgt := 147) F dX8_turns_143 (by decide) ?_
        refine z_istore (lv' := [_, _, _, _, _, _, _, _]) F dX8_turns_147 (by decide) rfl rfl ?_
        refine z_iload F dX8_turns_149 rfl ?_
        refine z_if_eq (tgt := 200) F dX8_turns_151 (by decide) (fun h_151 => absurd h_151 (by decide)) (fun h_151 => ?_)
        refine z_aload_n F dX8_turns_154 rfl ?_
        refine zg_X8_two F (by with_reducible assumption) fl_X8_37 dX8_turns_155 (fun hk_155 => ?_)
        refine z_iload_n F dX8_turns_158 rfl ?_
        refine z_iald10n (q := 0) F (by with_reducible assumption) (by decide) (by rw [hz10]; omega) dX8_turns_159 ?_
        try simp +decide only [zs_zaa, za_at, va_g, if_true, if_false, hA, hB]
        refine z_istore (lv' := [_, _, _, _, _, _, _, _]) F dX8_turns_160 (by decide) rfl rfl ?_
        refine z_aload_n F dX8_turns_162 rfl ?_
        refine zg_X8_two F (by with_reducible assumption) fl_X8_37 dX8_turns_163 (fun hk_163 => ?_)
        refine z_iload_n F dX8_turns_166 rfl ?_
        refine z_aload_n F dX8_turns_167 rfl ?_
        refine zg_X8_two F (by with_reducible assumption) fl_X8_37 dX8_turns_168 (fun hk_168 => ?_)
        refine z_iload_n F dX8_turns_171 rfl ?_
        refine z_iald10n (q := 4) F (by with_reducible assumption) (by decide) (by rw [hz10]; omega) dX8_turns_172 ?_
        try simp +decide only [zs_zaa, za_at, va_g, if_true, if_false, hA, hB]
        refine z_iast10n (q := 0) F (by with_reducible assumption) (by decide) (by rw [hz10]; omega) dX8_turns_173 ?_
        refine z_aload_n F dX8_turns_174 rfl ?_
        refine zg_X8_two F (by with_reducible assumption) fl_X8_37 dX8_turns_175 (fun hk_175 => ?_)
        refine z_iload_n F dX8_turns_178 rfl ?_
        refine z_iload F dX8_turns_179 rfl ?_
        refine z_iast10n (q := 4) F (by with_reducible assumption) (by decide) (by rw [hz10]; omega) dX8_turns_181 ?_
        refine z_aload_n F dX8_turns_182 rfl ?_
        refine zg_X8_two F (by with_reducible assumption) fl_X8_37 dX8_turns_183 (fun hk_183 => ?_)
        refine z_iload_n F dX8_turns_186 rfl ?_
        refine z_iconst (v := 1) F dX8_turns_187 (by decide) ?_
        refine z_iadd F dX8_turns_188 ?_
        refine z_iconst (v := 0) F dX8_turns_189 (by decide) ?_
        refine z_iast10n (q := 1) F (by with_reducible assumption) (by decide) (by rw [hz10]; omega) dX8_turns_190 ?_
        refine z_aload_n F dX8_turns_191 rfl ?_
        refine zg_X8_two F (by with_reducible assumption) fl_X8_37 dX8_turns_192 (fun hk_192 => ?_)
        refine z_iload_n F dX8_turns_195 rfl ?_
        refine z_iconst (v := 1) F dX8_turns_196 (by decide) ?_
        refine z_iadd F dX8_turns_197 ?_
        refine z_iconst (v := 0) F dX8_turns_198 (by decide) ?_
        refine z_iast10n (q := 5) F (by with_reducible assumption) (by decide) (by rw [hz10]; omega) dX8_turns_199 ?_
        refine z_iload F dX8_turns_200 rfl ?_
        refine z_zret F X dX8_turns_202 (by decide) ?_
        try simp only [zs_zaa]
        have hm : trnM (M.1 (o + 1)) (M.1 (o + 10)) 0 := hMi.mpr h_63
        have em : trnm (M.1 (o + 1)) (M.1 (o + 10)) 0 = 1 := if_pos hm
        have hp : trnP (M.1 (o + 1)) (M.1 (o + 10)) 0 4 := ⟨by rw [em, if_pos hm, hB, c2, hA, c1]; exact h_107, by rw [hA, hB]; exact h_139⟩
        refine ⟨?_, bI_t hp⟩
        rw [trnF, if_pos hp, trn1, em, hB, hA]
  · refine z_iconst (v := 0) F dX8_turns_66 (by decide) ?_
    refine z_goto (tgt := 71) F dX8_turns_67 (by decide) ?_
    refine z_iast10n (q := 2) F (by with_reducible assumption) (by decide) (by rw [hz10]; omega) dX8_turns_71 ?_
    refine z_iload_n F dX8_turns_72 rfl ?_
    refine z_iload F dX8_turns_73 rfl ?_
    refine z_ic_lt (tgt := 82) F dX8_turns_75 (by decide) (fun h_75 => absurd h_75 (nlt h_63)) (fun h_75 => ?_)
    refine z_iload_n F dX8_turns_78 rfl ?_
    refine z_goto (tgt := 84) F dX8_turns_79 (by decide) ?_
    refine z_istore (lv' := [_, _, _, _, _, _, _, _]) F dX8_turns_84 (by decide) rfl rfl ?_
    refine z_iload F dX8_turns_86 rfl ?_
    refine z_aload_n F dX8_turns_88 rfl ?_
    refine z_aload_n F dX8_turns_89 rfl ?_
    refine zg_X8_two F (by with_reducible assumption) fl_X8_37 dX8_turns_90 (fun hk_90 => ?_)
    refine z_iload_n F dX8_turns_93 rfl ?_
    refine z_iald10n (q := 4) F (by with_reducible assumption) (by decide) (by rw [hz10]; omega) dX8_turns_94 ?_
    try simp +decide only [zs_zaa, za_at, va_g, if_true, if_false, hA, hB]
    refine z_iconst (v := 0) F dX8_turns_95 (by decide) ?_
    refine z_aload_n F dX8_turns_96 rfl ?_
    refine zg_X8_two F (by with_reducible assumption) fl_X8_37 dX8_turns_97 (fun hk_97 => ?_)
    refine z_iload_n F dX8_turns_100 rfl ?_
    refine z_iconst (v := 2) F dX8_turns_101 (by decide) ?_
    refine z_iadd F dX8_turns_102 ?_
    refine z_iald10n (q := 2) F (by with_reducible assumption) (by decide) (by rw [hz10]; omega) dX8_turns_103 ?_
    try simp +decide only [zs_zaa, za_at, va_g, if_true, if_false, hA, hB]
    refine z_callVi F (c_X8_feels J (j := j2) hk ho h2 (by rw [e1]; exact kd)) zm_X8_feels zv_X8_feels ml_X8_99 (by with_reducible assumption) (by decide) rfl rfl rfl (Nat.le_of_ble_eq_true rfl) dX8_turns_104 (by omega) (fun r_104 M_104 h_104 => ?_)
    obtain ⟨e_104, f_104⟩ := h_104
    rw [e1] at f_104
    subst f_104
    replace e_104 := Eq.symm e_104
    subst e_104
    refine z_ic_le (tgt := 146) F dX8_turns_107 (by decide) (fun h_107 => ?_) (fun h_107 => ?_)
    · refine z_iconst (v := 0) F dX8_turns_146 (by decide) ?_
      refine z_istore (lv' := [_, _, _, _, _, _, _, _]) F dX8_turns_147 (by decide) rfl rfl ?_
      refine z_iload F dX8_turns_149 rfl ?_
      refine z_if_eq (tgt := 200) F dX8_turns_151 (by decide) (fun h_151 => ?_) (fun h_151 => absurd h_151 (by decide))
      refine z_iload F dX8_turns_200 rfl ?_
      refine z_zret F X dX8_turns_202 (by decide) ?_
      try simp only [zs_zaa]
      have hm : ¬ trnM (M.1 (o + 1)) (M.1 (o + 10)) 0 := fun z => nlt h_63 (hMi.mp z)
      have em : trnm (M.1 (o + 1)) (M.1 (o + 10)) 0 = 0 := if_neg hm
      have hp : ¬ trnP (M.1 (o + 1)) (M.1 (o + 10)) 0 4 := fun z => by
        have z1 := z.1
        rw [em, if_neg hm, hB, c2, hA, c1] at z1
        exact nlt h_107 z1
      refine ⟨?_, bI_f hp⟩
      rw [trnF, if_neg hp, trn1, em]
    · refine z_aload_n F dX8_turns_110 rfl ?_
      refine z_aload_n F dX8_turns_111 rfl ?_
      refine zg_X8_two F (by with_reducible assumption) fl_X8_37 dX8_turns_112 (fun hk_112 => ?_)
      refine z_iload_n F dX8_turns_115 rfl ?_
      refine z_iald10n (q := 0) F (by with_reducible assumption) (by decide) (by rw [hz10]; omega) dX8_turns_116 ?_
      try simp +decide only [zs_zaa, za_at, va_g, if_true, if_false, hA, hB]
      refine z_callVi F (c_X8_worth J (nt := 10) hk ho (Or.inr ⟨j1, h1, rfl⟩) (by decide)) zm_X8_worth zv_X8_worth ml_X8_173 (by with_reducible assumption) (by decide) rfl rfl rfl (Nat.le_of_ble_eq_true rfl) dX8_turns_117 (by omega) (fun r_117 M_117 h_117 => ?_)
      obtain ⟨e_117, f_117⟩ := h_117
      rw [e1] at f_117
      subst f_117
      replace e_117 := Eq.symm e_117
      subst e_117
      refine z_aload_n F dX8_turns_120 rfl ?_
      refine z_aload_n F dX8_turns_121 rfl ?_
      refine zg_X8_two F (by with_reducible assumption) fl_X8_37 dX8_turns_122 (fun hk_122 => ?_)
      refine z_iload_n F dX8_turns_125 rfl ?_
      refine z_iald10n (q := 4) F (by with_reducible assumption) (by decide) (by rw [hz10]; omega) dX8_turns_126 ?_
      try simp +decide only [zs_zaa, za_at, va_g, if_true, if_false, hA, hB]
      refine z_callVi F (c_X8_worth J (nt := 10) hk ho (Or.inr ⟨j2, h2, rfl⟩) (by decide)) zm_X8_worth zv_X8_worth ml_X8_173 (by with_reducible assumption) (by decide) rfl rfl rfl (Nat.le_of_ble_eq_true rfl) dX8_turns_127 (by omega) (fun r_127 M_127 h_127 => ?_)
      obtain ⟨e_127, f_127⟩ := h_127
      rw [e1] at f_127
      subst f_127
      replace e_127 := Eq.symm e_127
      subst e_127
      refine z_isub F dX8_turns_130 ?_
      refine z_aload_n F dX8_turns_131 rfl ?_
      refine zg_X8_two F (by with_reducible assumption) fl_X8_37 dX8_turns_132 (fun hk_132 => ?_)
      refine z_iload_n F dX8_turns_135 rfl ?_
      refine z_iconst (v := 3) F dX8_turns_136 (by decide) ?_
      refine z_iadd F dX8_turns_137 ?_
      refine z_iald10n (q := 3) F (by with_reducible assumption) (by decide) (by rw [hz10]; omega) dX8_turns_138 ?_
      try simp +decide only [zs_zaa, za_at, va_g, if_true, if_false, hA, hB]
      refine z_ic_gt (tgt := 146) F dX8_turns_139 (by decide) (fun h_139 => ?_) (fun h_139 => ?_)
      · refine z_iconst (v := 0) F dX8_turns_146 (by decide) ?_
        refine z_istore (lv' := [_, _, _, _, _, _, _, _]) F dX8_turns_147 (by decide) rfl rfl ?_
        refine z_iload F dX8_turns_149 rfl ?_
        refine z_if_eq (tgt := 200) F dX8_turns_151 (by decide) (fun h_151 => ?_) (fun h_151 => absurd h_151 (by decide))
        refine z_iload F dX8_turns_200 rfl ?_
        refine z_zret F X dX8_turns_202 (by decide) ?_
        try simp only [zs_zaa]
        have hm : ¬ trnM (M.1 (o + 1)) (M.1 (o + 10)) 0 := fun z => nlt h_63 (hMi.mp z)
        have em : trnm (M.1 (o + 1)) (M.1 (o + 10)) 0 = 0 := if_neg hm
        have hp : ¬ trnP (M.1 (o + 1)) (M.1 (o + 10)) 0 4 := fun z => by
          have z1 := z.2
          rw [hA, hB] at z1
          exact nle h_139 z1
        refine ⟨?_, bI_f hp⟩
        rw [trnF, if_neg hp, trn1, em]
      · refine z_iconst (v := 1) F dX8_turns_142 (by decide) ?_
        refine z_goto (tgt := 147) F dX8_turns_143 (by decide) ?_
        refine z_istore (lv' := [_, _, _, _, _, _, _, _]) F dX8_turns_147 (by decide) rfl rfl ?_
        refine z_iload F dX8_turns_149 rfl ?_
        refine z_if_eq (tgt := 200) F dX8_turns_151 (by decide) (fun h_151 => absurd h_151 (by decide)) (fun h_151 => ?_)
        refine z_aload_n F dX8_turns_154 rfl ?_
        refine zg_X8_two F (by with_reducible assumption) fl_X8_37 dX8_turns_155 (fun hk_155 => ?_)
        refine z_iload_n F dX8_turns_158 rfl ?_
        refine z_iald10n (q := 0) F (by with_reducible assumption) (by decide) (by rw [hz10]; omega) dX8_turns_159 ?_
        try simp +decide only [zs_zaa, za_at, va_g, if_true, if_false, hA, hB]
        refine z_istore (lv' := [_, _, _, _, _, _, _, _]) F dX8_turns_160 (by decide) rfl rfl ?_
        refine z_aload_n F dX8_turns_162 rfl ?_
        refine zg_X8_two F (by with_reducible assumption) fl_X8_37 dX8_turns_163 (fun hk_163 => ?_)
        refine z_iload_n F dX8_turns_166 rfl ?_
        refine z_aload_n F dX8_turns_167 rfl ?_
        refine zg_X8_two F (by with_reducible assumption) fl_X8_37 dX8_turns_168 (fun hk_168 => ?_)
        refine z_iload_n F dX8_turns_171 rfl ?_
        refine z_iald10n (q := 4) F (by with_reducible assumption) (by decide) (by rw [hz10]; omega) dX8_turns_172 ?_
        try simp +decide only [zs_zaa, za_at, va_g, if_true, if_false, hA, hB]
        refine z_iast10n (q := 0) F (by with_reducible assumption) (by decide) (by rw [hz10]; omega) dX8_turns_173 ?_
        refine z_aload_n F dX8_turns_174 rfl ?_
        refine zg_X8_two F (by with_reducible assumption) fl_X8_37 dX8_turns_175 (fun hk_175 => ?_)
        refine z_iload_n F dX8_turns_178 rfl ?_
        refine z_iload F dX8_turns_179 rfl ?_
        refine z_iast10n (q := 4) F (by with_reducible assumption) (by decide) (by rw [hz10]; omega) dX8_turns_181 ?_
        refine z_aload_n F dX8_turns_182 rfl ?_
        refine zg_X8_two F (by with_reducible assumption) fl_X8_37 dX8_turns_183 (fun hk_183 => ?_)
        refine z_iload_n F dX8_turns_186 rfl ?_
        refine z_iconst (v := 1) F dX8_turns_187 (by decide) ?_
        refine z_iadd F dX8_turns_188 ?_
        refine z_iconst (v := 0) F dX8_turns_189 (by decide) ?_
        refine z_iast10n (q := 1) F (by with_reducible assumption) (by decide) (by rw [hz10]; omega) dX8_turns_190 ?_
        refine z_aload_n F dX8_turns_191 rfl ?_
        refine zg_X8_two F (by with_reducible assumption) fl_X8_37 dX8_turns_192 (fun hk_192 => ?_)
        refine z_iload_n F dX8_turns_195 rfl ?_
        refine z_iconst (v := 1) F dX8_turns_196 (by decide) ?_
        refine z_iadd F dX8_turns_197 ?_
        refine z_iconst (v := 0) F dX8_turns_198 (by decide) ?_
        refine z_iast10n (q := 5) F (by with_reducible assumption) (by decide) (by rw [hz10]; omega) dX8_turns_199 ?_
        refine z_iload F dX8_turns_200 rfl ?_
        refine z_zret F X dX8_turns_202 (by decide) ?_
        try simp only [zs_zaa]
        have hm : ¬ trnM (M.1 (o + 1)) (M.1 (o + 10)) 0 := fun z => nlt h_63 (hMi.mp z)
        have em : trnm (M.1 (o + 1)) (M.1 (o + 10)) 0 = 0 := if_neg hm
        have hp : trnP (M.1 (o + 1)) (M.1 (o + 10)) 0 4 := ⟨by rw [em, if_neg hm, hB, c2, hA, c1]; exact h_107, by rw [hA, hB]; exact h_139⟩
        refine ⟨?_, bI_t hp⟩
        rw [trnF, if_pos hp, trn1, em, hB, hA]
theorem c_X8_turnsB {l : Launch} {w : zE} (J : zJ w) {M : zM} {o j1 j2 : Nat} (hk : zk o = 8) (ho : o = 138) (kd : kdOK (M.1 (o + 1))) (h1 : j1 < 10) (h2 : j2 < 10) (hA : M.1 (o + 10) 4 = nI j1) (hB : M.1 (o + 10) 0 = nI j2) : zCi l w yX8_turns cX8_turns 8 (some .boolean) 1 [.ref (w.2.2 o), .int 4, .int 0] M (fun r M2 => M2 = za M (o + 10) (trnF (M.1 (o + 1)) (M.1 (o + 10)) 4 0) ∧ r = bI (trnP (M.1 (o + 1)) (M.1 (o + 10)) 4 0)) := by
  obtain ⟨hz1, hz2, hz3, hz4, hz5, hz6, hz7, hz8, hz9, hz10, hz11, hz12, hz13, hz14, hz15⟩ := zn8 ho
  have e1 : ∀ (f : zF1), (za M (o + 10) f).1 (o + 1) = M.1 (o + 1) := fun f => za_off _ (by omega)
  have c1 : (nI j1).toNatClampNeg = j1 := nI_clamp (by omega)
  have c2 : (nI j2).toNatClampNeg = j2 := nI_clamp (by omega)
  have hMi : trnM (M.1 (o + 1)) (M.1 (o + 10)) 4 ↔ feltF (M.1 (o + 1)) j1 0 (M.1 (o + 10) 5 + 1) < feltF (M.1 (o + 1)) j1 1 (M.1 (o + 10) 5 + 1) := by unfold trnM; rw [hA, c1]
  have eM : M = za M (o + 10) (M.1 (o + 10)) := (za_self _ _).symm
  refine zCi_of J zm_X8_turns [some (.ref (w.2.2 o)), some (.int 4), some (.int 0), none, none, none, none, none] (Nat.le_of_ble_eq_true rfl) rfl (fun g hg F X => ?_)
  subst hg
  rw [eM]
  refine z_aload_n F dX8_turns_0 rfl ?_
  refine zg_X8_two F (by with_reducible assumption) fl_X8_37 dX8_turns_1 (fun hk_1 => ?_)
  refine z_iload_n F dX8_turns_4 rfl ?_
  refine z_iconst (v := 1) F dX8_turns_5 (by decide) ?_
  refine z_iadd F dX8_turns_6 ?_
  refine z_dup2 F dX8_turns_7 rfl rfl ?_
  refine z_iald10n (q := 5) F (by with_reducible assumption) (by decide) (by rw [hz10]; omega) dX8_turns_8 ?_
  try simp +decide only [zs_zaa, za_at, va_g, if_true, if_false, hA, hB]
  refine z_iconst (v := 1) F dX8_turns_9 (by decide) ?_
  refine z_iadd F dX8_turns_10 ?_
  refine z_iast10n (q := 5) F (by with_reducible assumption) (by decide) (by rw [hz10]; omega) dX8_turns_11 ?_
  refine z_aload_n F dX8_turns_12 rfl ?_
  refine z_aload_n F dX8_turns_13 rfl ?_
  refine zg_X8_two F (by with_reducible assumption) fl_X8_37 dX8_turns_14 (fun hk_14 => ?_)
  refine z_iload_n F dX8_turns_17 rfl ?_
  refine z_iald10n (q := 4) F (by with_reducible assumption) (by decide) (by rw [hz10]; omega) dX8_turns_18 ?_
  try simp +decide only [zs_zaa, za_at, va_g, if_true, if_false, hA, hB]
  refine z_aload_n F dX8_turns_19 rfl ?_
  refine zg_X8_two F (by with_reducible assumption) fl_X8_37 dX8_turns_20 (fun hk_20 => ?_)
  refine z_iload_n F dX8_turns_23 rfl ?_
  refine z_iconst (v := 1) F dX8_turns_24 (by decide) ?_
  refine z_iadd F dX8_turns_25 ?_
  refine z_iald10n (q := 5) F (by with_reducible assumption) (by decide) (by rw [hz10]; omega) dX8_turns_26 ?_
  try simp +decide only [zs_zaa, za_at, va_g, if_true, if_false, hA, hB]
  refine z_iconst (v := 0) F dX8_turns_27 (by decide) ?_
  refine z_callVi F (c_X8_feels J (j := j1) hk ho h1 (by rw [e1]; exact kd)) zm_X8_feels zv_X8_feels ml_X8_99 (by with_reducible assumption) (by decide) rfl rfl rfl (Nat.le_of_ble_eq_true rfl) dX8_turns_28 (by omega) (fun r_28 M_28 h_28 => ?_)
  obtain ⟨e_28, f_28⟩ := h_28
  rw [e1] at f_28
  subst f_28
  replace e_28 := Eq.symm e_28
  subst e_28
  refine z_istore_n (lv' := [_, _, _, _, _, _, _, _]) F dX8_turns_31 (by decide) rfl rfl ?_
  refine z_aload_n F dX8_turns_32 rfl ?_
  refine z_aload_n F dX8_turns_33 rfl ?_
  refine zg_X8_two F (by with_reducible assumption) fl_X8_37 dX8_turns_34 (fun hk_34 => ?_)
  refine z_iload_n F dX8_turns_37 rfl ?_
  refine z_iald10n (q := 4) F (by with_reducible assumption) (by decide) (by rw [hz10]; omega) dX8_turns_38 ?_
  try simp +decide only [zs_zaa, za_at, va_g, if_true, if_false, hA, hB]
  refine z_aload_n F dX8_turns_39 rfl ?_
  refine zg_X8_two F (by with_reducible assumption) fl_X8_37 dX8_turns_40 (fun hk_40 => ?_)
  refine z_iload_n F dX8_turns_43 rfl ?_
  refine z_iconst (v := 1) F dX8_turns_44 (by decide) ?_
  refine z_iadd F dX8_turns_45 ?_
  refine z_iald10n (q := 5) F (by with_reducible assumption) (by decide) (by rw [hz10]; omega) dX8_turns_46 ?_
  try simp +decide only [zs_zaa, za_at, va_g, if_true, if_false, hA, hB]
  refine z_iconst (v := 1) F dX8_turns_47 (by decide) ?_
  refine z_callVi F (c_X8_feels J (j := j1) hk ho h1 (by rw [e1]; exact kd)) zm_X8_feels zv_X8_feels ml_X8_99 (by with_reducible assumption) (by decide) rfl rfl rfl (Nat.le_of_ble_eq_true rfl) dX8_turns_48 (by omega) (fun r_48 M_48 h_48 => ?_)
  obtain ⟨e_48, f_48⟩ := h_48
  rw [e1] at f_48
  subst f_48
  replace e_48 := Eq.symm e_48
  subst e_48
  refine z_istore (lv' := [_, _, _, _, _, _, _, _]) F dX8_turns_51 (by decide) rfl rfl ?_
  refine z_aload_n F dX8_turns_53 rfl ?_
  refine zg_X8_two F (by with_reducible assumption) fl_X8_37 dX8_turns_54 (fun hk_54 => ?_)
  refine z_iload_n F dX8_turns_57 rfl ?_
  refine z_iconst (v := 2) F dX8_turns_58 (by decide) ?_
  refine z_iadd F dX8_turns_59 ?_
  refine z_iload_n F dX8_turns_60 rfl ?_
  refine z_iload F dX8_turns_61 rfl ?_
  refine z_ic_lt (tgt := 70) F dX8_turns_63 (by decide) (fun h_63 => ?_) (fun h_63 => ?_)
  · refine z_iconst (v := 1) F dX8_turns_70 (by decide) ?_
    refine z_iast10n (q := 6) F (by with_reducible assumption) (by decide) (by rw [hz10]; omega) dX8_turns_71 ?_
    refine z_iload_n F dX8_turns_72 rfl ?_
    refine z_iload F dX8_turns_73 rfl ?_
    refine z_ic_lt (tgt := 82) F dX8_turns_75 (by decide) (fun h_75 => ?_) (fun h_75 => absurd h_75 (nle h_63))
    refine z_iload F dX8_turns_82 rfl ?_
    refine z_istore (lv' := [_, _, _, _, _, _, _, _]) F dX8_turns_84 (by decide) rfl rfl ?_
    refine z_iload F dX8_turns_86 rfl ?_
    refine z_aload_n F dX8_turns_88 rfl ?_
    refine z_aload_n F dX8_turns_89 rfl ?_
    refine zg_X8_two F (by with_reducible assumption) fl_X8_37 dX8_turns_90 (fun hk_90 => ?_)
    refine z_iload_n F dX8_turns_93 rfl ?_
    refine z_iald10n (q := 0) F (by with_reducible assumption) (by decide) (by rw [hz10]; omega) dX8_turns_94 ?_
    try simp +decide only [zs_zaa, za_at, va_g, if_true, if_false, hA, hB]
    refine z_iconst (v := 0) F dX8_turns_95 (by decide) ?_
    refine z_aload_n F dX8_turns_96 rfl ?_
    refine zg_X8_two F (by with_reducible assumption) fl_X8_37 dX8_turns_97 (fun hk_97 => ?_)
    refine z_iload_n F dX8_turns_100 rfl ?_
    refine z_iconst (v := 2) F dX8_turns_101 (by decide) ?_
    refine z_iadd F dX8_turns_102 ?_
    refine z_iald10n (q := 6) F (by with_reducible assumption) (by decide) (by rw [hz10]; omega) dX8_turns_103 ?_
    try simp +decide only [zs_zaa, za_at, va_g, if_true, if_false, hA, hB]
    refine z_callVi F (c_X8_feels J (j := j2) hk ho h2 (by rw [e1]; exact kd)) zm_X8_feels zv_X8_feels ml_X8_99 (by with_reducible assumption) (by decide) rfl rfl rfl (Nat.le_of_ble_eq_true rfl) dX8_turns_104 (by omega) (fun r_104 M_104 h_104 => ?_)
    obtain ⟨e_104, f_104⟩ := h_104
    rw [e1] at f_104
    subst f_104
    replace e_104 := Eq.symm e_104
    subst e_104
    refine z_ic_le (tgt := 146) F dX8_turns_107 (by decide) (fun h_107 => ?_) (fun h_107 => ?_)
    · refine z_iconst (v := 0) F dX8_turns_146 (by decide) ?_
      refine z_istore (lv' := [_, _, _, _, _, _, _, _]) F dX8_turns_147 (by decide) rfl rfl ?_
      refine z_iload F dX8_turns_149 rfl ?_
      refine z_if_eq (tgt := 200) F dX8_turns_151 (by decide) (fun h_151 => ?_) (fun h_151 => absurd h_151 (by decide))
      refine z_iload F dX8_turns_200 rfl ?_
      refine z_zret F X dX8_turns_202 (by decide) ?_
      try simp only [zs_zaa]
      have hm : trnM (M.1 (o + 1)) (M.1 (o + 10)) 4 := hMi.mpr h_63
      have em : trnm (M.1 (o + 1)) (M.1 (o + 10)) 4 = 1 := if_pos hm
      have hp : ¬ trnP (M.1 (o + 1)) (M.1 (o + 10)) 4 0 := fun z => by
        have z1 := z.1
        rw [em, if_pos hm, hB, c2, hA, c1] at z1
        exact nlt h_107 z1
      refine ⟨?_, bI_f hp⟩
      rw [trnF, if_neg hp, trn1, em]
    · refine z_aload_n F dX8_turns_110 rfl ?_
      refine z_aload_n F dX8_turns_111 rfl ?_
      refine zg_X8_two F (by with_reducible assumption) fl_X8_37 dX8_turns_112 (fun hk_112 => ?_)
      refine z_iload_n F dX8_turns_115 rfl ?_
      refine z_iald10n (q := 4) F (by with_reducible assumption) (by decide) (by rw [hz10]; omega) dX8_turns_116 ?_
      try simp +decide only [zs_zaa, za_at, va_g, if_true, if_false, hA, hB]
      refine z_callVi F (c_X8_worth J (nt := 10) hk ho (Or.inr ⟨j1, h1, rfl⟩) (by decide)) zm_X8_worth zv_X8_worth ml_X8_173 (by with_reducible assumption) (by decide) rfl rfl rfl (Nat.le_of_ble_eq_true rfl) dX8_turns_117 (by omega) (fun r_117 M_117 h_117 => ?_)
      obtain ⟨e_117, f_117⟩ := h_117
      rw [e1] at f_117
      subst f_117
      replace e_117 := Eq.symm e_117
      subst e_117
      refine z_aload_n F dX8_turns_120 rfl ?_
      refine z_aload_n F dX8_turns_121 rfl ?_
      refine zg_X8_two F (by with_reducible assumption) fl_X8_37 dX8_turns_122 (fun hk_122 => ?_)
      refine z_iload_n F dX8_turns_125 rfl ?_
      refine z_iald10n (q := 0) F (by with_reducible assumption) (by decide) (by rw [hz10]; omega) dX8_turns_126 ?_
      try simp +decide only [zs_zaa, za_at, va_g, if_true, if_false, hA, hB]
      refine z_callVi F (c_X8_worth J (nt := 10) hk ho (Or.inr ⟨j2, h2, rfl⟩) (by decide)) zm_X8_worth zv_X8_worth ml_X8_173 (by with_reducible assumption) (by decide) rfl rfl rfl (Nat.le_of_ble_eq_true rfl) dX8_turns_127 (by omega) (fun r_127 M_127 h_127 => ?_)
      obtain ⟨e_127, f_127⟩ := h_127
      rw [e1] at f_127
      subst f_127
      replace e_127 := Eq.symm e_127
      subst e_127
      refine z_isub F dX8_turns_130 ?_
      refine z_aload_n F dX8_turns_131 rfl ?_
      refine zg_X8_two F (by with_reducible assumption) fl_X8_37 dX8_turns_132 (fun hk_132 => ?_)
      refine z_iload_n F dX8_turns_135 rfl ?_
      refine z_iconst (v := 3) F dX8_turns_136 (by decide) ?_
      refine z_iadd F dX8_turns_137 ?_
      refine z_iald10n (q := 7) F (by with_reducible assumption) (by decide) (by rw [hz10]; omega) dX8_turns_138 ?_
      try simp +decide only [zs_zaa, za_at, va_g, if_true, if_false, hA, hB]
      refine z_ic_gt (tgt := 146) F dX8_turns_139 (by decide) (fun h_139 => ?_) (fun h_139 => ?_)
      · refine z_iconst (v := 0) F dX8_turns_146 (by decide) ?_
        refine z_istore (lv' := [_, _, _, _, _, _, _, _]) F dX8_turns_147 (by decide) rfl rfl ?_
        refine z_iload F dX8_turns_149 rfl ?_
        refine z_if_eq (tgt := 200) F dX8_turns_151 (by decide) (fun h_151 => ?_) (fun h_151 => absurd h_151 (by decide))
        refine z_iload F dX8_turns_200 rfl ?_
        refine z_zret F X dX8_turns_202 (by decide) ?_
        try simp only [zs_zaa]
        have hm : trnM (M.1 (o + 1)) (M.1 (o + 10)) 4 := hMi.mpr h_63
        have em : trnm (M.1 (o + 1)) (M.1 (o + 10)) 4 = 1 := if_pos hm
        have hp : ¬ trnP (M.1 (o + 1)) (M.1 (o + 10)) 4 0 := fun z => by
          have z1 := z.2
          rw [hA, hB] at z1
          exact nle h_139 z1
        refine ⟨?_, bI_f hp⟩
        rw [trnF, if_neg hp, trn1, em]
      · refine z_iconst (v := 1) F dX8_turns_142 (by decide) ?_
        refine z_goto (tgt := 147) F dX8_turns_143 (by decide) ?_
        refine z_istore (lv' := [_, _, _, _, _, _, _, _]) F dX8_turns_147 (by decide) rfl rfl ?_
        refine z_iload F dX8_turns_149 rfl ?_
        refine z_if_eq (tgt := 200) F dX8_turns_151 (by decide) (fun h_151 => absurd h_151 (by decide)) (fun h_151 => ?_)
        refine z_aload_n F dX8_turns_154 rfl ?_
        refine zg_X8_two F (by with_reducible assumption) fl_X8_37 dX8_turns_155 (fun hk_155 => ?_)
        refine z_iload_n F dX8_turns_158 rfl ?_
        refine z_iald10n (q := 4) F (by with_reducible assumption) (by decide) (by rw [hz10]; omega) dX8_turns_159 ?_
        try simp +decide only [zs_zaa, za_at, va_g, if_true, if_false, hA, hB]
        refine z_istore (lv' := [_, _, _, _, _, _, _, _]) F dX8_turns_160 (by decide) rfl rfl ?_
        refine z_aload_n F dX8_turns_162 rfl ?_
        refine zg_X8_two F (by with_reducible assumption) fl_X8_37 dX8_turns_163 (fun hk_163 => ?_)
        refine z_iload_n F dX8_turns_166 rfl ?_
        refine z_aload_n F dX8_turns_167 rfl ?_
        refine zg_X8_two F (by with_reducible assumption) fl_X8_37 dX8_turns_168 (fun hk_168 => ?_)
        refine z_iload_n F dX8_turns_171 rfl ?_
        refine z_iald10n (q := 0) F (by with_reducible assumption) (by decide) (by rw [hz10]; omega) dX8_turns_172 ?_
        try simp +decide only [zs_zaa, za_at, va_g, if_true, if_false, hA, hB]
        refine z_iast10n (q := 4) F (by with_reducible assumption) (by decide) (by rw [hz10]; omega) dX8_turns_173 ?_
        refine z_aload_n F dX8_turns_174 rfl ?_
        refine zg_X8_two F (by with_reducible assumption) fl_X8_37 dX8_turns_175 (fun hk_175 => ?_)
        refine z_iload_n F dX8_turns_178 rfl ?_
        refine z_iload F dX8_turns_179 rfl ?_
        refine z_iast10n (q := 0) F (by with_reducible assumption) (by decide) (by rw [hz10]; omega) dX8_turns_181 ?_
        refine z_aload_n F dX8_turns_182 rfl ?_
        refine zg_X8_two F (by with_reducible assumption) fl_X8_37 dX8_turns_183 (fun hk_183 => ?_)
        refine z_iload_n F dX8_turns_186 rfl ?_
        refine z_iconst (v := 1) F dX8_turns_187 (by decide) ?_
        refine z_iadd F dX8_turns_188 ?_
        refine z_iconst (v := 0) F dX8_turns_189 (by decide) ?_
        refine z_iast10n (q := 5) F (by with_reducible assumption) (by decide) (by rw [hz10]; omega) dX8_turns_190 ?_
        refine z_aload_n F dX8_turns_191 rfl ?_
        refine zg_X8_two F (by with_reducible assumption) fl_X8_37 dX8_turns_192 (fun hk_192 => ?_)
        refine z_iload_n F dX8_turns_195 rfl ?_
        refine z_iconst (v := 1) F dX8_turns_196 (by decide) ?_
        refine z_iadd F dX8_turns_197 ?_
        refine z_iconst (v := 0) F dX8_turns_198 (by decide) ?_
        refine z_iast10n (q := 1) F (by with_reducible assumption) (by decide) (by rw [hz10]; omega) dX8_turns_199 ?_
        refine z_iload F dX8_turns_200 rfl ?_
        refine z_zret F X dX8_turns_202 (by decide) ?_
        try simp only [zs_zaa]
        have hm : trnM (M.1 (o + 1)) (M.1 (o + 10)) 4 := hMi.mpr h_63
        have em : trnm (M.1 (o + 1)) (M.1 (o + 10)) 4 = 1 := if_pos hm
        have hp : trnP (M.1 (o + 1)) (M.1 (o + 10)) 4 0 := ⟨by rw [em, if_pos hm, hB, c2, hA, c1]; exact h_107, by rw [hA, hB]; exact h_139⟩
        refine ⟨?_, bI_t hp⟩
        rw [trnF, if_pos hp, trn1, em, hB, hA]
  · refine z_iconst (v := 0) F dX8_turns_66 (by decide) ?_
    refine z_goto (tgt := 71) F dX8_turns_67 (by decide) ?_
    refine z_iast10n (q := 6) F (by with_reducible assumption) (by decide) (by rw [hz10]; omega) dX8_turns_71 ?_
    refine z_iload_n F dX8_turns_72 rfl ?_
    refine z_iload F dX8_turns_73 rfl ?_
    refine z_ic_lt (tgt := 82) F dX8_turns_75 (by decide) (fun h_75 => absurd h_75 (nlt h_63)) (fun h_75 => ?_)
    refine z_iload_n F dX8_turns_78 rfl ?_
    refine z_goto (tgt := 84) F dX8_turns_79 (by decide) ?_
    refine z_istore (lv' := [_, _, _, _, _, _, _, _]) F dX8_turns_84 (by decide) rfl rfl ?_
    refine z_iload F dX8_turns_86 rfl ?_
    refine z_aload_n F dX8_turns_88 rfl ?_
    refine z_aload_n F dX8_turns_89 rfl ?_
    refine zg_X8_two F (by with_reducible assumption) fl_X8_37 dX8_turns_90 (fun hk_90 => ?_)
    refine z_iload_n F dX8_turns_93 rfl ?_
    refine z_iald10n (q := 0) F (by with_reducible assumption) (by decide) (by rw [hz10]; omega) dX8_turns_94 ?_
    try simp +decide only [zs_zaa, za_at, va_g, if_true, if_false, hA, hB]
    refine z_iconst (v := 0) F dX8_turns_95 (by decide) ?_
    refine z_aload_n F dX8_turns_96 rfl ?_
    refine zg_X8_two F (by with_reducible assumption) fl_X8_37 dX8_turns_97 (fun hk_97 => ?_)
    refine z_iload_n F dX8_turns_100 rfl ?_
    refine z_iconst (v := 2) F dX8_turns_101 (by decide) ?_
    refine z_iadd F dX8_turns_102 ?_
    refine z_iald10n (q := 6) F (by with_reducible assumption) (by decide) (by rw [hz10]; omega) dX8_turns_103 ?_
    try simp +decide only [zs_zaa, za_at, va_g, if_true, if_false, hA, hB]
    refine z_callVi F (c_X8_feels J (j := j2) hk ho h2 (by rw [e1]; exact kd)) zm_X8_feels zv_X8_feels ml_X8_99 (by with_reducible assumption) (by decide) rfl rfl rfl (Nat.le_of_ble_eq_true rfl) dX8_turns_104 (by omega) (fun r_104 M_104 h_104 => ?_)
    obtain ⟨e_104, f_104⟩ := h_104
    rw [e1] at f_104
    subst f_104
    replace e_104 := Eq.symm e_104
    subst e_104
    refine z_ic_le (tgt := 146) F dX8_turns_107 (by decide) (fun h_107 => ?_) (fun h_107 => ?_)
    · refine z_iconst (v := 0) F dX8_turns_146 (by decide) ?_
      refine z_istore (lv' := [_, _, _, _, _, _, _, _]) F dX8_turns_147 (by decide) rfl rfl ?_
      refine z_iload F dX8_turns_149 rfl ?_
      refine z_if_eq (tgt := 200) F dX8_turns_151 (by decide) (fun h_151 => ?_) (fun h_151 => absurd h_151 (by decide))
      refine z_iload F dX8_turns_200 rfl ?_
      refine z_zret F X dX8_turns_202 (by decide) ?_
      try simp only [zs_zaa]
      have hm : ¬ trnM (M.1 (o + 1)) (M.1 (o + 10)) 4 := fun z => nlt h_63 (hMi.mp z)
      have em : trnm (M.1 (o + 1)) (M.1 (o + 10)) 4 = 0 := if_neg hm
      have hp : ¬ trnP (M.1 (o + 1)) (M.1 (o + 10)) 4 0 := fun z => by
        have z1 := z.1
        rw [em, if_neg hm, hB, c2, hA, c1] at z1
        exact nlt h_107 z1
      refine ⟨?_, bI_f hp⟩
      rw [trnF, if_neg hp, trn1, em]
    · refine z_aload_n F dX8_turns_110 rfl ?_
      refine z_aload_n F dX8_turns_111 rfl ?_
      refine zg_X8_two F (by with_reducible assumption) fl_X8_37 dX8_turns_112 (fun hk_112 => ?_)
      refine z_iload_n F dX8_turns_115 rfl ?_
      refine z_iald10n (q := 4) F (by with_reducible assumption) (by decide) (by rw [hz10]; omega) dX8_turns_116 ?_
      try simp +decide only [zs_zaa, za_at, va_g, if_true, if_false, hA, hB]
      refine z_callVi F (c_X8_worth J (nt := 10) hk ho (Or.inr ⟨j1, h1, rfl⟩) (by decide)) zm_X8_worth zv_X8_worth ml_X8_173 (by with_reducible assumption) (by decide) rfl rfl rfl (Nat.le_of_ble_eq_true rfl) dX8_turns_117 (by omega) (fun r_117 M_117 h_117 => ?_)
      obtain ⟨e_117, f_117⟩ := h_117
      rw [e1] at f_117
      subst f_117
      replace e_117 := Eq.symm e_117
      subst e_117
      refine z_aload_n F dX8_turns_120 rfl ?_
      refine z_aload_n F dX8_turns_121 rfl ?_
      refine zg_X8_two F (by with_reducible assumption) fl_X8_37 dX8_turns_122 (fun hk_122 => ?_)
      refine z_iload_n F dX8_turns_125 rfl ?_
      refine z_iald10n (q := 0) F (by with_reducible assumption) (by decide) (by rw [hz10]; omega) dX8_turns_126 ?_
      try simp +decide only [zs_zaa, za_at, va_g, if_true, if_false, hA, hB]
      refine z_callVi F (c_X8_worth J (nt := 10) hk ho (Or.inr ⟨j2, h2, rfl⟩) (by decide)) zm_X8_worth zv_X8_worth ml_X8_173 (by with_reducible assumption) (by decide) rfl rfl rfl (Nat.le_of_ble_eq_true rfl) dX8_turns_127 (by omega) (fun r_127 M_127 h_127 => ?_)
      obtain ⟨e_127, f_127⟩ := h_127
      rw [e1] at f_127
      subst f_127
      replace e_127 := Eq.symm e_127
      subst e_127
      refine z_isub F dX8_turns_130 ?_
      refine z_aload_n F dX8_turns_131 rfl ?_
      refine zg_X8_two F (by with_reducible assumption) fl_X8_37 dX8_turns_132 (fun hk_132 => ?_)
      refine z_iload_n F dX8_turns_135 rfl ?_
      refine z_iconst (v := 3) F dX8_turns_136 (by decide) ?_
      refine z_iadd F dX8_turns_137 ?_
      refine z_iald10n (q := 7) F (by with_reducible assumption) (by decide) (by rw [hz10]; omega) dX8_turns_138 ?_
      try simp +decide only [zs_zaa, za_at, va_g, if_true, if_false, hA, hB]
      refine z_ic_gt (tgt := 146) F dX8_turns_139 (by decide) (fun h_139 => ?_) (fun h_139 => ?_)
      · refine z_iconst (v := 0) F dX8_turns_146 (by decide) ?_
        refine z_istore (lv' := [_, _, _, _, _, _, _, _]) F dX8_turns_147 (by decide) rfl rfl ?_
        refine z_iload F dX8_turns_149 rfl ?_
        refine z_if_eq (tgt := 200) F dX8_turns_151 (by decide) (fun h_151 => ?_) (fun h_151 => absurd h_151 (by decide))
        refine z_iload F dX8_turns_200 rfl ?_
        refine z_zret F X dX8_turns_202 (by decide) ?_
        try simp only [zs_zaa]
        have hm : ¬ trnM (M.1 (o + 1)) (M.1 (o + 10)) 4 := fun z => nlt h_63 (hMi.mp z)
        have em : trnm (M.1 (o + 1)) (M.1 (o + 10)) 4 = 0 := if_neg hm
        have hp : ¬ trnP (M.1 (o + 1)) (M.1 (o + 10)) 4 0 := fun z => by
          have z1 := z.2
          rw [hA, hB] at z1
          exact nle h_139 z1
        refine ⟨?_, bI_f hp⟩
        rw [trnF, if_neg hp, trn1, em]
      · refine z_iconst (v := 1) F dX8_turns_142 (by decide) ?_
        refine z_goto (tgt := 147) F dX8_turns_143 (by decide) ?_
        refine z_istore (lv' := [_, _, _, _, _, _, _, _]) F dX8_turns_147 (by decide) rfl rfl ?_
        refine z_iload F dX8_turns_149 rfl ?_
        refine z_if_eq (tgt := 200) F dX8_turns_151 (by decide) (fun h_151 => absurd h_151 (by decide)) (fun h_151 => ?_)
        refine z_aload_n F dX8_turns_154 rfl ?_
        refine zg_X8_two F (by with_reducible assumption) fl_X8_37 dX8_turns_155 (fun hk_155 => ?_)
        refine z_iload_n F dX8_turns_158 rfl ?_
        refine z_iald10n (q := 4) F (by with_reducible assumption) (by decide) (by rw [hz10]; omega) dX8_turns_159 ?_
        try simp +decide only [zs_zaa, za_at, va_g, if_true, if_false, hA, hB]
        refine z_istore (lv' := [_, _, _, _, _, _, _, _]) F dX8_turns_160 (by decide) rfl rfl ?_
        refine z_aload_n F dX8_turns_162 rfl ?_
        refine zg_X8_two F (by with_reducible assumption) fl_X8_37 dX8_turns_163 (fun hk_163 => ?_)
        refine z_iload_n F dX8_turns_166 rfl ?_
        refine z_aload_n F dX8_turns_167 rfl ?_
        refine zg_X8_two F (by with_reducible assumption) fl_X8_37 dX8_turns_168 (fun hk_168 => ?_)
        refine z_iload_n F dX8_turns_171 rfl ?_
        refine z_iald10n (q := 0) F (by with_reducible assumption) (by decide) (by rw [hz10]; omega) dX8_turns_172 ?_
        try simp +decide only [zs_zaa, za_at, va_g, if_true, if_false, hA, hB]
        refine z_iast10n (q := 4) F (by with_reducible assumption) (by decide) (by rw [hz10]; omega) dX8_turns_173 ?_
        refine z_aload_n F dX8_turns_174 rfl ?_
        refine zg_X8_two F (by with_reducible assumption) fl_X8_37 dX8_turns_175 (fun hk_175 => ?_)
        refine z_iload_n F dX8_turns_178 rfl ?_
        refine z_iload F dX8_turns_179 rfl ?_
        refine z_iast10n (q := 0) F (by with_reducible assumption) (by decide) (by rw [hz10]; omega) dX8_turns_181 ?_
        refine z_aload_n F dX8_turns_182 rfl ?_
        refine zg_X8_two F (by with_reducible assumption) fl_X8_37 dX8_turns_183 (fun hk_183 => ?_)
        refine z_iload_n F dX8_turns_186 rfl ?_
        refine z_iconst (v := 1) F dX8_turns_187 (by decide) ?_
        refine z_iadd F dX8_turns_188 ?_
        refine z_iconst (v := 0) F dX8_turns_189 (by decide) ?_
        refine z_iast10n (q := 5) F (by with_reducible assumption) (by decide) (by rw [hz10]; omega) dX8_turns_190 ?_
        refine z_aload_n F dX8_turns_191 rfl ?_
        refine zg_X8_two F (by with_reducible assumption) fl_X8_37 dX8_turns_192 (fun hk_192 => ?_)
        refine z_iload_n F dX8_turns_195 rfl ?_
        refine z_iconst (v := 1) F dX8_turns_196 (by decide) ?_
        refine z_iadd F dX8_turns_197 ?_
        refine z_iconst (v := 0) F dX8_turns_198 (by decide) ?_
        refine z_iast10n (q := 1) F (by with_reducible assumption) (by decide) (by rw [hz10]; omega) dX8_turns_199 ?_
        refine z_iload F dX8_turns_200 rfl ?_
        refine z_zret F X dX8_turns_202 (by decide) ?_
        try simp only [zs_zaa]
        have hm : ¬ trnM (M.1 (o + 1)) (M.1 (o + 10)) 4 := fun z => nlt h_63 (hMi.mp z)
        have em : trnm (M.1 (o + 1)) (M.1 (o + 10)) 4 = 0 := if_neg hm
        have hp : trnP (M.1 (o + 1)) (M.1 (o + 10)) 4 0 := ⟨by rw [em, if_neg hm, hB, c2, hA, c1]; exact h_107, by rw [hA, hB]; exact h_139⟩
        refine ⟨?_, bI_t hp⟩
        rw [trnF, if_pos hp, trn1, em, hB, hA]
end
section
/-! two who meet -/
def mtN (P : Prop) [Decidable P] (k : Int32) : Int32 := if P then 0 else k + 1
def mtL (th : zF1) : Nat → Nat → zF1 → Int32 → Nat × zF1 × Int32
  | 0, n, T, k => (n, T, k)
  | r + 1, n, T, k => if k < 2 then (if n % 2 = 0 then mtL th r (n + 1) (trnF th T 0 4) (mtN (trnP th T 0 4) k) else mtL th r (n + 1) (trnF th T 4 0) (mtN (trnP th T 4 0) k)) else (n, T, k)
abbrev mtOK (T : zF1) : Prop := ∃ j1 j2, j1 < 10 ∧ j2 < 10 ∧ T 0 = nI j1 ∧ T 4 = nI j2
theorem trn_A {th T : zF1} (h : mtOK T) : mtOK (trnF th T 0 4) := by
  obtain ⟨j1, j2, h1, h2, e1, e2⟩ := h
  unfold trnF
  split
  · exact ⟨j2, j1, h2, h1, e2, e1⟩
  · exact ⟨j1, j2, h1, h2, e1, e2⟩
theorem trn_B {th T : zF1} (h : mtOK T) : mtOK (trnF th T 4 0) := by
  obtain ⟨j1, j2, h1, h2, e1, e2⟩ := h
  unfold trnF
  split
  · exact ⟨j2, j1, h2, h1, e2, e1⟩
  · exact ⟨j1, j2, h1, h2, e1, e2⟩
theorem rem2 : ∀ n, n < 200 → nI n - nI n / 2 * 2 = nI (n % 2) := by decide +kernel
def mtT (T : zF1) (a b c h x : Int32) : zF1 := va_up (va_up (va_up (va_up (va_up (va_up (va_up (va_up T 0 a) 1 b) 2 c) 3 h) 4 x) 5 0) 6 0) 7 99
theorem c_X8_meet {l : Launch} {w : zE} (J : zJ w) {M : zM} {o nt np a : Nat} {x k : Int32} (hk : zk o = 8) (ho : o = 138) (ok : rOK M o nt np a) : zCi l w yX8_meet cX8_meet 6 (some .int) 2 [.ref (w.2.2 o), .int x, .int k] M (fun r M2 => (¬ ((0 ≤ x ∧ x < M.1 o 0) ∧ ¬ (k < 0 ∨ 2 < k)) ∧ r = -1 ∧ M2 = M) ∨ (((0 ≤ x ∧ x < M.1 o 0) ∧ ¬ (k < 0 ∨ 2 < k)) ∧ (((¬ whoR (M.1 (o + 3)) x np = -4 ∨ M.1 (o + 3) 0 = -4) ∧ r = -2 ∧ M2 = M) ∨ (¬ (¬ whoR (M.1 (o + 3)) x np = -4 ∨ M.1 (o + 3) 0 = -4) ∧ ∃ R, R = mtL (M.1 (o + 1)) 200 0 (mtT (M.1 (o + 10)) (M.1 (o + 3) 0) (M.1 (o + 3) 1) (M.1 (o + 3) 2) (M.1 o 5) x) 0 ∧ M2 = za M (o + 10) R.2.1 ∧ r = if R.2.2 < 2 then -4 else if k = 0 then nI R.1 else if k = 1 then R.2.1 0 else R.2.1 4)))) := by
  obtain ⟨hz1, hz2, hz3, hz4, hz5, hz6, hz7, hz8, hz9, hz10, hz11, hz12, hz13, hz14, hz15⟩ := zn8 ho
  obtain ⟨hnt, h10, hnp, h8, kd, tv, ha, h12, hts⟩ := id ok
  have e1 : ∀ (f : zF1), (za M (o + 10) f).1 (o + 1) = M.1 (o + 1) := fun f => za_off _ (by omega)
  have e3 : ∀ (f : zF1), (za M (o + 10) f).1 (o + 3) = M.1 (o + 3) := fun f => za_off _ (by omega)
  have e0 : ∀ (f : zF1), (za M (o + 10) f).1 o = M.1 o := fun f => za_off _ (by omega)
  refine zCi_of J zm_X8_meet [some (.ref (w.2.2 o)), some (.int x), some (.int k), none, none, none] (Nat.le_of_ble_eq_true rfl) rfl (fun g hg F X => ?_)
  subst hg
  have key : ∀ (R : Nat × zF1 × Int32), (∀ lv5, ZW w g 6 185 [some (.ref (w.2.2 o)), some (.int x), some (.int k), some (.int R.2.2), some (.int (nI R.1)), lv5] [] (za M (o + 10) R.2.1)) → ∀ (r n : Nat) (T : zF1) (q : Int32) (lv5 : Option Value), n + r = 200 → mtOK T → mtL (M.1 (o + 1)) r n T q = R → ZW w g 6 129 [some (.ref (w.2.2 o)), some (.int x), some (.int k), some (.int q), some (.int (nI n)), lv5] [] (za M (o + 10) T) := by
    intro R K r
    induction r with
    | zero =>
      intro n T q lv5 hn hT hR
      obtain rfl : n = 200 := by omega
      refine z_iload F dX8_meet_129 rfl ?_
      refine z_sipush (v := 200) F dX8_meet_131 (by decide) ?_
      refine z_ic_ge (tgt := 185) F dX8_meet_134 (by decide) (fun h_134 => ?_) (fun h_134 => absurd h_134 (by decide))
      subst hR
      exact K _
    | succ r ih =>
      intro n T q lv5 hn hT hR
      obtain ⟨j1, j2, h1, h2, t1, t2⟩ := id hT
      refine z_iload F dX8_meet_129 rfl ?_
      refine z_sipush (v := 200) F dX8_meet_131 (by decide) ?_
      refine z_ic_ge (tgt := 185) F dX8_meet_134 (by decide) (fun h_134 => absurd h_134 (nI_ge (b := 200) (by omega) (by decide))) (fun h_134 => ?_)
      refine z_iload_n F dX8_meet_137 rfl ?_
      refine z_iconst (v := 2) F dX8_meet_138 (by decide) ?_
      refine z_ic_ge (tgt := 185) F dX8_meet_139 (by decide) (fun h_139 => ?_) (fun h_139 => ?_)
      · rw [mtL, if_neg (nlt h_139)] at hR
        subst hR
        exact K _
      · refine z_iload F dX8_meet_142 rfl ?_
        refine z_iconst (v := 2) F dX8_meet_144 (by decide) ?_
        refine z_irem F dX8_meet_145 (by decide) ?_
        rw [rem2 n (by omega)]
        refine z_if_ne (tgt := 158) F dX8_meet_146 (by decide) (fun h_146 => ?_) (fun h_146 => ?_)
        · refine z_aload_n F dX8_meet_158 rfl ?_
          refine z_iconst (v := 4) F dX8_meet_159 (by decide) ?_
          refine z_iconst (v := 0) F dX8_meet_160 (by decide) ?_
          refine z_callVi F (c_X8_turnsB J hk ho (by rw [e1]; exact kd) h2 h1 (by rw [za_at]; exact t2) (by rw [za_at]; exact t1)) zm_X8_turns zv_X8_turns ml_X8_207 (by with_reducible assumption) (by decide) rfl rfl rfl (Nat.le_of_ble_eq_true rfl) dX8_meet_161 (by omega) (fun r_161 M_161 h_161 => ?_)
          obtain ⟨e_161, f_161⟩ := h_161
          simp only [e1, za_at, za_za] at e_161 f_161
          subst f_161
          subst e_161
          refine z_istore (lv' := [_, _, _, _, _, _]) F dX8_meet_164 (by decide) rfl rfl ?_
          refine z_iload F dX8_meet_166 rfl ?_
          refine z_if_eq (tgt := 175) F dX8_meet_168 (by decide) (fun h_168 => ?_) (fun h_168 => ?_)
          · replace h_168 := bI_0.mp h_168
            refine z_iload_n F dX8_meet_175 rfl ?_
            refine z_iconst (v := 1) F dX8_meet_176 (by decide) ?_
            refine z_iadd F dX8_meet_177 ?_
            refine z_istore_n (lv' := [_, _, _, _, _, _]) F dX8_meet_178 (by decide) rfl rfl ?_
            refine z_iincc (c := 1) (lv' := [_, _, _, _, _, _]) F dX8_meet_179 rfl (by decide) (by decide) rfl rfl ?_
            refine z_goto (tgt := 129) F dX8_meet_182 (by decide) ?_
            rw [mtL, if_pos h_139, if_neg (fun z => h_146 (by rw [z]; rfl)), mtN, if_neg h_168] at hR
            rw [nI_1]
            exact ih (n + 1) _ _ _ (by omega) (trn_B hT) hR
          · replace h_168 := bI_1.mp h_168
            refine z_iconst (v := 0) F dX8_meet_171 (by decide) ?_
            refine z_goto (tgt := 178) F dX8_meet_172 (by decide) ?_
            refine z_istore_n (lv' := [_, _, _, _, _, _]) F dX8_meet_178 (by decide) rfl rfl ?_
            refine z_iincc (c := 1) (lv' := [_, _, _, _, _, _]) F dX8_meet_179 rfl (by decide) (by decide) rfl rfl ?_
            refine z_goto (tgt := 129) F dX8_meet_182 (by decide) ?_
            rw [mtL, if_pos h_139, if_neg (fun z => h_146 (by rw [z]; rfl)), mtN, if_pos h_168] at hR
            rw [nI_1]
            exact ih (n + 1) _ _ _ (by omega) (trn_B hT) hR
        · refine z_aload_n F dX8_meet_149 rfl ?_
          refine z_iconst (v := 0) F dX8_meet_150 (by decide) ?_
          refine z_iconst (v := 4) F dX8_meet_151 (by decide) ?_
          refine z_callVi F (c_X8_turnsA J hk ho (by rw [e1]; exact kd) h1 h2 (by rw [za_at]; exact t1) (by rw [za_at]; exact t2)) zm_X8_turns zv_X8_turns ml_X8_207 (by with_reducible assumption) (by decide) rfl rfl rfl (Nat.le_of_ble_eq_true rfl) dX8_meet_152 (by omega) (fun r_152 M_152 h_152 => ?_)
          obtain ⟨e_152, f_152⟩ := h_152
          simp only [e1, za_at, za_za] at e_152 f_152
          subst f_152
          subst e_152
          refine z_goto (tgt := 164) F dX8_meet_155 (by decide) ?_
          refine z_istore (lv' := [_, _, _, _, _, _]) F dX8_meet_164 (by decide) rfl rfl ?_
          refine z_iload F dX8_meet_166 rfl ?_
          refine z_if_eq (tgt := 175) F dX8_meet_168 (by decide) (fun h_168 => ?_) (fun h_168 => ?_)
          · replace h_168 := bI_0.mp h_168
            refine z_iload_n F dX8_meet_175 rfl ?_
            refine z_iconst (v := 1) F dX8_meet_176 (by decide) ?_
            refine z_iadd F dX8_meet_177 ?_
            refine z_istore_n (lv' := [_, _, _, _, _, _]) F dX8_meet_178 (by decide) rfl rfl ?_
            refine z_iincc (c := 1) (lv' := [_, _, _, _, _, _]) F dX8_meet_179 rfl (by decide) (by decide) rfl rfl ?_
            refine z_goto (tgt := 129) F dX8_meet_182 (by decide) ?_
            rw [mtL, if_pos h_139, if_pos (show n % 2 = 0 from (nI_eq (by omega) (by decide)).mp h_146), mtN, if_neg h_168] at hR
            rw [nI_1]
            exact ih (n + 1) _ _ _ (by omega) (trn_A hT) hR
          · replace h_168 := bI_1.mp h_168
            refine z_iconst (v := 0) F dX8_meet_171 (by decide) ?_
            refine z_goto (tgt := 178) F dX8_meet_172 (by decide) ?_
            refine z_istore_n (lv' := [_, _, _, _, _, _]) F dX8_meet_178 (by decide) rfl rfl ?_
            refine z_iincc (c := 1) (lv' := [_, _, _, _, _, _]) F dX8_meet_179 rfl (by decide) (by decide) rfl rfl ?_
            refine z_goto (tgt := 129) F dX8_meet_182 (by decide) ?_
            rw [mtL, if_pos h_139, if_pos (show n % 2 = 0 from (nI_eq (by omega) (by decide)).mp h_146), mtN, if_pos h_168] at hR
            rw [nI_1]
            exact ih (n + 1) _ _ _ (by omega) (trn_A hT) hR
  have fin : ∀ (R : Nat × zF1 × Int32) (lv5 : Option Value), R = mtL (M.1 (o + 1)) 200 0 (mtT (M.1 (o + 10)) (M.1 (o + 3) 0) (M.1 (o + 3) 1) (M.1 (o + 3) 2) (M.1 o 5) x) 0 → ((0 ≤ x ∧ x < M.1 o 0) ∧ ¬ (k < 0 ∨ 2 < k)) → ¬ (¬ whoR (M.1 (o + 3)) x np = -4 ∨ M.1 (o + 3) 0 = -4) → ZW w g 6 185 [some (.ref (w.2.2 o)), some (.int x), some (.int k), some (.int R.2.2), some (.int (nI R.1)), lv5] [] (za M (o + 10) R.2.1) := by
    intro R lv5 hR hb hc
    refine z_iload_n F dX8_meet_185 rfl ?_
    refine z_iconst (v := 2) F dX8_meet_186 (by decide) ?_
    refine z_ic_ge (tgt := 195) F dX8_meet_187 (by decide) (fun h_187 => ?_) (fun h_187 => ?_)
    · try simp only [za_at] at h_187
      refine z_iload_n F dX8_meet_195 rfl ?_
      refine z_if_ne (tgt := 204) F dX8_meet_196 (by decide) (fun h_196 => ?_) (fun h_196 => ?_)
      · try simp only [za_at] at h_196
        refine z_iload_n F dX8_meet_204 rfl ?_
        refine z_iconst (v := 1) F dX8_meet_205 (by decide) ?_
        refine z_ic_ne (tgt := 218) F dX8_meet_206 (by decide) (fun h_206 => ?_) (fun h_206 => ?_)
        · try simp only [za_at] at h_206
          refine z_aload_n F dX8_meet_218 rfl ?_
          refine zg_X8_two F (by with_reducible assumption) fl_X8_37 dX8_meet_219 (fun hk_219 => ?_)
          refine z_iconst (v := 4) F dX8_meet_222 (by decide) ?_
          refine z_iald10n (q := 4) F (by with_reducible assumption) (by decide) (by rw [hz10]; omega) dX8_meet_223 ?_
          try simp only [za_at]
          refine z_iret F X dX8_meet_224 ?_
          refine Or.inr ⟨hb, Or.inr ⟨hc, R, hR, rfl, ?_⟩⟩
          rw [if_neg (nlt h_187), if_neg h_196, if_neg h_206]
        · try simp only [za_at] at h_206
          refine z_aload_n F dX8_meet_209 rfl ?_
          refine zg_X8_two F (by with_reducible assumption) fl_X8_37 dX8_meet_210 (fun hk_210 => ?_)
          refine z_iconst (v := 0) F dX8_meet_213 (by decide) ?_
          refine z_iald10n (q := 0) F (by with_reducible assumption) (by decide) (by rw [hz10]; omega) dX8_meet_214 ?_
          try simp only [za_at]
          refine z_goto (tgt := 224) F dX8_meet_215 (by decide) ?_
          refine z_iret F X dX8_meet_224 ?_
          refine Or.inr ⟨hb, Or.inr ⟨hc, R, hR, rfl, ?_⟩⟩
          rw [if_neg (nlt h_187), if_neg h_196, if_pos h_206]
      · try simp only [za_at] at h_196
        refine z_iload F dX8_meet_199 rfl ?_
        refine z_goto (tgt := 224) F dX8_meet_201 (by decide) ?_
        refine z_iret F X dX8_meet_224 ?_
        refine Or.inr ⟨hb, Or.inr ⟨hc, R, hR, rfl, ?_⟩⟩
        rw [if_neg (nlt h_187), if_pos h_196]
    · try simp only [za_at] at h_187
      refine z_bipush (v := (-4)) F dX8_meet_190 (by decide) ?_
      refine z_goto (tgt := 224) F dX8_meet_192 (by decide) ?_
      refine z_iret F X dX8_meet_224 ?_
      refine Or.inr ⟨hb, Or.inr ⟨hc, R, hR, rfl, ?_⟩⟩
      rw [if_pos h_187]
  refine z_aload_n F dX8_meet_0 rfl ?_
  refine z_iload_n F dX8_meet_1 rfl ?_
  refine z_i2l F dX8_meet_2 ?_
  refine z_callVi F (d_X8_isThing J hk hnt h10) zm_X8_isThing zv_X8_isThing ml_X8_89 (by with_reducible assumption) (by decide) rfl rfl rfl (Nat.le_of_ble_eq_true rfl) dX8_meet_3 (by omega) (fun r_3 M_3 h_3 => ?_)
  obtain ⟨e_3, rfl⟩ := h_3
  replace e_3 := Eq.symm e_3
  subst e_3
  refine z_if_eq (tgt := 21) F dX8_meet_6 (by decide) (fun h_6 => ?_) (fun h_6 => ?_)
  · replace h_6 := bI_0.mp h_6
    try simp only [zs_zaa, e0, e3] at h_6
    refine z_iconst (v := (-1)) F dX8_meet_21 (by decide) ?_
    refine z_iret F X dX8_meet_22 ?_
    exact Or.inl ⟨fun z => h_6 z.1, rfl, rfl⟩
  · replace h_6 := bI_1.mp h_6
    try simp only [zs_zaa, e0, e3] at h_6
    refine z_iload_n F dX8_meet_9 rfl ?_
    refine z_i2l F dX8_meet_10 ?_
    refine z_lconst (v := 0) F dX8_meet_11 (by decide) ?_
    refine z_ldc2 F dX8_meet_12 cl_X8_115 ?_
    refine z_callSi F (d_X8_in J (a := 0) (b := 2) (by decide) (by decide)) zm_X8_in zst_X8_in ml_X8_72 rfl rfl (Nat.le_of_ble_eq_true rfl) dX8_meet_15 (by omega) (fun r_15 M_15 h_15 => ?_)
    obtain ⟨e_15, rfl⟩ := h_15
    replace e_15 := Eq.symm e_15
    subst e_15
    refine z_if_ne (tgt := 23) F dX8_meet_18 (by decide) (fun h_18 => ?_) (fun h_18 => ?_)
    · replace h_18 := bI_1.mp h_18
      try simp only [zs_zaa, e0, e3] at h_18
      refine z_aload_n F dX8_meet_23 rfl ?_
      refine z_iload_n F dX8_meet_24 rfl ?_
      refine z_callVi F (c_X8_who J hk ho hnp h8) zm_X8_who zv_X8_who ml_X8_95 (by with_reducible assumption) (by decide) rfl rfl rfl (Nat.le_of_ble_eq_true rfl) dX8_meet_25 (by omega) (fun r_25 M_25 h_25 => ?_)
      obtain ⟨e_25, rfl⟩ := h_25
      replace e_25 := Eq.symm e_25
      subst e_25
      refine z_bipush (v := (-4)) F dX8_meet_28 (by decide) ?_
      refine z_ic_ne (tgt := 44) F dX8_meet_30 (by decide) (fun h_30 => ?_) (fun h_30 => ?_)
      · try simp only [zs_zaa, e0, e3] at h_30
        refine z_bipush (v := (-2)) F dX8_meet_44 (by decide) ?_
        refine z_iret F X dX8_meet_46 ?_
        exact Or.inr ⟨⟨h_6, by grind⟩, Or.inl ⟨Or.inl h_30, rfl, rfl⟩⟩
      · try simp only [zs_zaa, e0, e3] at h_30
        refine z_aload_n F dX8_meet_33 rfl ?_
        refine zg_X8_now F (by with_reducible assumption) fl_X8_16 dX8_meet_34 (fun hk_34 => ?_)
        refine z_iconst (v := 0) F dX8_meet_37 (by decide) ?_
        refine z_iald10n (q := 0) F (by with_reducible assumption) (by decide) (by rw [hz3]; omega) dX8_meet_38 ?_
        try simp only [zs_zaa, e0, e3]
        refine z_bipush (v := (-4)) F dX8_meet_39 (by decide) ?_
        refine z_ic_ne (tgt := 47) F dX8_meet_41 (by decide) (fun h_41 => ?_) (fun h_41 => ?_)
        · try simp only [zs_zaa, e0, e3] at h_41
          rw [show M = za M (o + 10) (M.1 (o + 10)) from (za_self _ _).symm]
          refine z_aload_n F dX8_meet_47 rfl ?_
          refine zg_X8_two F (by with_reducible assumption) fl_X8_37 dX8_meet_48 (fun hk_48 => ?_)
          refine z_iconst (v := 0) F dX8_meet_51 (by decide) ?_
          refine z_aload_n F dX8_meet_52 rfl ?_
          refine zg_X8_now F (by with_reducible assumption) fl_X8_16 dX8_meet_53 (fun hk_53 => ?_)
          refine z_iconst (v := 0) F dX8_meet_56 (by decide) ?_
          refine z_iald10n (q := 0) F (by with_reducible assumption) (by decide) (by rw [hz3]; omega) dX8_meet_57 ?_
          try simp only [zs_zaa, e0, e3]
          refine z_iast10n (q := 0) F (by with_reducible assumption) (by decide) (by rw [hz10]; omega) dX8_meet_58 ?_
          refine z_aload_n F dX8_meet_59 rfl ?_
          refine zg_X8_two F (by with_reducible assumption) fl_X8_37 dX8_meet_60 (fun hk_60 => ?_)
          refine z_iconst (v := 1) F dX8_meet_63 (by decide) ?_
          refine z_aload_n F dX8_meet_64 rfl ?_
          refine zg_X8_now F (by with_reducible assumption) fl_X8_16 dX8_meet_65 (fun hk_65 => ?_)
          refine z_iconst (v := 1) F dX8_meet_68 (by decide) ?_
          refine z_iald10n (q := 1) F (by with_reducible assumption) (by decide) (by rw [hz3]; omega) dX8_meet_69 ?_
          try simp only [zs_zaa, e0, e3]
          refine z_iast10n (q := 1) F (by with_reducible assumption) (by decide) (by rw [hz10]; omega) dX8_meet_70 ?_
          refine z_aload_n F dX8_meet_71 rfl ?_
          refine zg_X8_two F (by with_reducible assumption) fl_X8_37 dX8_meet_72 (fun hk_72 => ?_)
          refine z_iconst (v := 2) F dX8_meet_75 (by decide) ?_
          refine z_aload_n F dX8_meet_76 rfl ?_
          refine zg_X8_now F (by with_reducible assumption) fl_X8_16 dX8_meet_77 (fun hk_77 => ?_)
          refine z_iconst (v := 2) F dX8_meet_80 (by decide) ?_
          refine z_iald10n (q := 2) F (by with_reducible assumption) (by decide) (by rw [hz3]; omega) dX8_meet_81 ?_
          try simp only [zs_zaa, e0, e3]
          refine z_iast10n (q := 2) F (by with_reducible assumption) (by decide) (by rw [hz10]; omega) dX8_meet_82 ?_
          refine z_aload_n F dX8_meet_83 rfl ?_
          refine zg_X8_two F (by with_reducible assumption) fl_X8_37 dX8_meet_84 (fun hk_84 => ?_)
          refine z_iconst (v := 3) F dX8_meet_87 (by decide) ?_
          refine z_aload_n F dX8_meet_88 rfl ?_
          refine zg_X8_heed F (by with_reducible assumption) fl_X8_60 dX8_meet_89 ?_
          try simp only [zs_zaa, e0, e3]
          refine z_iast10n (q := 3) F (by with_reducible assumption) (by decide) (by rw [hz10]; omega) dX8_meet_92 ?_
          refine z_aload_n F dX8_meet_93 rfl ?_
          refine zg_X8_two F (by with_reducible assumption) fl_X8_37 dX8_meet_94 (fun hk_94 => ?_)
          refine z_iconst (v := 4) F dX8_meet_97 (by decide) ?_
          refine z_iload_n F dX8_meet_98 rfl ?_
          refine z_iast10n (q := 4) F (by with_reducible assumption) (by decide) (by rw [hz10]; omega) dX8_meet_99 ?_
          refine z_aload_n F dX8_meet_100 rfl ?_
          refine zg_X8_two F (by with_reducible assumption) fl_X8_37 dX8_meet_101 (fun hk_101 => ?_)
          refine z_iconst (v := 5) F dX8_meet_104 (by decide) ?_
          refine z_iconst (v := 0) F dX8_meet_105 (by decide) ?_
          refine z_iast10n (q := 5) F (by with_reducible assumption) (by decide) (by rw [hz10]; omega) dX8_meet_106 ?_
          refine z_aload_n F dX8_meet_107 rfl ?_
          refine zg_X8_two F (by with_reducible assumption) fl_X8_37 dX8_meet_108 (fun hk_108 => ?_)
          refine z_bipush (v := 6) F dX8_meet_111 (by decide) ?_
          refine z_iconst (v := 0) F dX8_meet_113 (by decide) ?_
          refine z_iast10n (q := 6) F (by with_reducible assumption) (by decide) (by rw [hz10]; omega) dX8_meet_114 ?_
          refine z_aload_n F dX8_meet_115 rfl ?_
          refine zg_X8_two F (by with_reducible assumption) fl_X8_37 dX8_meet_116 (fun hk_116 => ?_)
          refine z_bipush (v := 7) F dX8_meet_119 (by decide) ?_
          refine z_bipush (v := 99) F dX8_meet_121 (by decide) ?_
          refine z_iast10n (q := 7) F (by with_reducible assumption) (by decide) (by rw [hz10]; omega) dX8_meet_123 ?_
          refine z_iconst (v := 0) F dX8_meet_124 (by decide) ?_
          refine z_istore_n (lv' := [_, _, _, _, _, _]) F dX8_meet_125 (by decide) rfl rfl ?_
          refine z_iconst (v := 0) F dX8_meet_126 (by decide) ?_
          refine z_istore (lv' := [_, _, _, _, _, _]) F dX8_meet_127 (by decide) rfl rfl ?_
          try simp only [zs_zaa]
          obtain ⟨j2, hj2, ex⟩ := n_in (n := nt) (by rw [← hnt]; exact h_6) (by omega)
          have hT : mtOK (mtT (M.1 (o + 10)) (M.1 (o + 3) 0) (M.1 (o + 3) 1) (M.1 (o + 3) 2) (M.1 o 5) x) := by
            rcases tv.1 with z | ⟨j1, hj1, z⟩
            · exact absurd z h_41
            · exact ⟨j1, j2, by omega, by omega, z, ex⟩
          exact key _ (fun lv5 => fin _ lv5 rfl ⟨h_6, by grind⟩ (fun z => z.elim (fun z => z h_30) h_41)) 200 0 _ 0 none rfl hT rfl
        · try simp only [zs_zaa, e0, e3] at h_41
          refine z_bipush (v := (-2)) F dX8_meet_44 (by decide) ?_
          refine z_iret F X dX8_meet_46 ?_
          exact Or.inr ⟨⟨h_6, by grind⟩, Or.inl ⟨Or.inr h_41, rfl, rfl⟩⟩
    · replace h_18 := bI_0.mp h_18
      try simp only [zs_zaa, e0, e3] at h_18
      refine z_iconst (v := (-1)) F dX8_meet_21 (by decide) ?_
      refine z_iret F X dX8_meet_22 ?_
      exact Or.inl ⟨fun z => h_18 (by grind), rfl, rfl⟩
end
section
/-! the reference reads: the next letter that is no blank -/
theorem zs_same (M : zM) (b o : Nat) {v : Int32} (h : M.1 b o = v) : zs M b o v = M := by rw [zs_za, ← h, va_up_id, za_self]
theorem c_X8_here {l : Launch} {w : zE} (J : zJ w) {M : zM} {o len p : Nat} (hk : zk o = 8) (ho : o = 138) (hl : M.1 o 10 = nI len) (h120 : len ≤ 120) (hp : M.1 o 11 = nI p) (hpl : p ≤ len) : zCi l w yX8_here cX8_here 1 (some .int) 0 [.ref (w.2.2 o)] M (fun r M2 => M2 = zs M o 11 (nI (nxP (M.1 (o + 4)) (len - p) p)) ∧ r = chF (M.1 (o + 4)) len (nxP (M.1 (o + 4)) (len - p) p)) := by
  obtain ⟨hz1, hz2, hz3, hz4, hz5, hz6, hz7, hz8, hz9, hz10, hz11, hz12, hz13, hz14, hz15⟩ := zn8 ho
  have s11 : ∀ v : Int32, (zs M o 11 v).1 o 11 = v := fun v => by rw [zs_at, va_up_self]
  have s10 : ∀ v : Int32, (zs M o 11 v).1 o 10 = nI len := fun v => by rw [zs_at, va_up_ne _ _ (by decide), hl]
  have s4 : ∀ v : Int32, (zs M o 11 v).1 (o + 4) = M.1 (o + 4) := fun v => zs_off _ (by omega)
  refine zCi_of J zm_X8_here [some (.ref (w.2.2 o))] (Nat.le_of_ble_eq_true rfl) rfl (fun g hg F X => ?_)
  subst hg
  generalize hN : nxP (M.1 (o + 4)) (len - p) p = N at X
  have key : ∀ (r q : Nat), q + r = len → nxP (M.1 (o + 4)) r q = N → ZW w g 1 0 [some (.ref (w.2.2 o))] [] (zs M o 11 (nI q)) := by
    intro r
    induction r with
    | zero =>
      intro q hq hn
      obtain rfl : q = len := by omega
      have hn : q = N := hn
      subst hn
      refine z_aload_n F dX8_here_0 rfl ?_
      refine zg_X8_at F (by with_reducible assumption) fl_X8_124 dX8_here_1 ?_
      try simp only [s11, s10, s4]
      refine z_aload_n F dX8_here_4 rfl ?_
      refine zg_X8_taped F (by with_reducible assumption) fl_X8_121 dX8_here_5 ?_
      try simp only [s11, s10, s4]
      refine z_ic_ge (tgt := 38) F dX8_here_8 (by decide) (fun h_8 => ?_) (fun h_8 => absurd h_8 (fun z => absurd z (Int32.not_lt.mpr (Int32.le_refl _))))
      refine z_aload_n F dX8_here_38 rfl ?_
      refine zg_X8_at F (by with_reducible assumption) fl_X8_124 dX8_here_39 ?_
      try simp only [s11, s10, s4]
      refine z_aload_n F dX8_here_42 rfl ?_
      refine zg_X8_taped F (by with_reducible assumption) fl_X8_121 dX8_here_43 ?_
      try simp only [s11, s10, s4]
      refine z_ic_ge (tgt := 61) F dX8_here_46 (by decide) (fun h_46 => ?_) (fun h_46 => absurd h_46 (fun z => absurd z (Int32.not_lt.mpr (Int32.le_refl _))))
      refine z_iconst (v := 0) F dX8_here_61 (by decide) ?_
      refine z_iret F X dX8_here_62 ?_
      exact ⟨rfl, by rw [chF, if_neg (Nat.lt_irrefl _)]⟩
    | succ r ih =>
      intro q hq hn
      rw [nxP] at hn
      refine z_aload_n F dX8_here_0 rfl ?_
      refine zg_X8_at F (by with_reducible assumption) fl_X8_124 dX8_here_1 ?_
      try simp only [s11, s10, s4]
      refine z_aload_n F dX8_here_4 rfl ?_
      refine zg_X8_taped F (by with_reducible assumption) fl_X8_121 dX8_here_5 ?_
      try simp only [s11, s10, s4]
      refine z_ic_ge (tgt := 38) F dX8_here_8 (by decide) (fun h_8 => absurd h_8 (nI_ge (by omega) (by omega))) (fun h_8 => ?_)
      refine z_aload_n F dX8_here_11 rfl ?_
      refine zg_X8_tape F (by with_reducible assumption) fl_X8_19 dX8_here_12 (fun hk_12 => ?_)
      refine z_aload_n F dX8_here_15 rfl ?_
      refine zg_X8_at F (by with_reducible assumption) fl_X8_124 dX8_here_16 ?_
      try simp only [s11, s10, s4]
      refine z_iald10n (q := q) F (by with_reducible assumption) (by first | with_reducible rfl | (simp only [n4, n2, n3, n5, n14, n16, na1, na2, na3, nI_add, nI_1, nI_pred]; done) | (simp only [n4, n2, n3, n5, n14, n16, na1, na2, na3, nI_add, nI_1, nI_pred, Nat.add_assoc, Nat.add_comm, Nat.add_left_comm]; done)) (by rw [hz4]; omega) dX8_here_19 ?_
      try simp only [s11, s10, s4]
      refine z_bipush (v := 32) F dX8_here_20 (by decide) ?_
      refine z_ic_ne (tgt := 38) F dX8_here_22 (by decide) (fun h_22 => ?_) (fun h_22 => ?_)
      · try simp only [s11, s10, s4] at h_22
        refine z_aload_n F dX8_here_38 rfl ?_
        refine zg_X8_at F (by with_reducible assumption) fl_X8_124 dX8_here_39 ?_
        try simp only [s11, s10, s4]
        refine z_aload_n F dX8_here_42 rfl ?_
        refine zg_X8_taped F (by with_reducible assumption) fl_X8_121 dX8_here_43 ?_
        try simp only [s11, s10, s4]
        refine z_ic_ge (tgt := 61) F dX8_here_46 (by decide) (fun h_46 => absurd h_46 (nI_ge (by omega) (by omega))) (fun h_46 => ?_)
        refine z_aload_n F dX8_here_49 rfl ?_
        refine zg_X8_tape F (by with_reducible assumption) fl_X8_19 dX8_here_50 (fun hk_50 => ?_)
        refine z_aload_n F dX8_here_53 rfl ?_
        refine zg_X8_at F (by with_reducible assumption) fl_X8_124 dX8_here_54 ?_
        try simp only [s11, s10, s4]
        refine z_iald10n (q := q) F (by with_reducible assumption) (by first | with_reducible rfl | (simp only [n4, n2, n3, n5, n14, n16, na1, na2, na3, nI_add, nI_1, nI_pred]; done) | (simp only [n4, n2, n3, n5, n14, n16, na1, na2, na3, nI_add, nI_1, nI_pred, Nat.add_assoc, Nat.add_comm, Nat.add_left_comm]; done)) (by rw [hz4]; omega) dX8_here_57 ?_
        try simp only [s11, s10, s4]
        refine z_goto (tgt := 62) F dX8_here_58 (by decide) ?_
        refine z_iret F X dX8_here_62 ?_
        rw [if_neg h_22] at hn
        subst hn
        exact ⟨rfl, by rw [chF, if_pos (by omega)]⟩
      · try simp only [s11, s10, s4] at h_22
        refine z_aload_n F dX8_here_25 rfl ?_
        refine z_dup F dX8_here_26 rfl ?_
        refine zg_X8_at F (by with_reducible assumption) fl_X8_124 dX8_here_27 ?_
        try simp only [s11, s10, s4]
        refine z_iconst (v := 1) F dX8_here_30 (by decide) ?_
        refine z_iadd F dX8_here_31 ?_
        refine zp_X8_at F (by with_reducible assumption) fl_X8_124 dX8_here_32 ?_
        refine z_goto (tgt := 0) F dX8_here_35 (by decide) ?_
        rw [zs_zs, nI_1]
        rw [if_pos h_22] at hn
        exact ih (q + 1) (by omega) hn
  have K := key (len - p) p (by omega) hN
  rw [zs_same M o 11 hp] at K
  exact K
end
