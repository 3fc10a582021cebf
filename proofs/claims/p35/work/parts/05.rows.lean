/-! THE WALK over the memory: zG is all that stays the same in a method's walk -/
abbrev zG : Type := (Program × Launch × Env × Room) × (State × MethodId × Array Value × List Frame) × (Method × Code × Nat × Nat) × ((Nat → Prop) × (State → Prop))
def zL : Nat → List (Option Value) → List (Nat × Value)
  | _, [] => []
  | n, none :: r => zL (n + 1) r
  | n, some v :: r => (n, v) :: zL (n + 1) r
theorem zL_mem : ∀ (lv : List (Option Value)) (n k : Nat) (v : Value), (k, v) ∈ zL n lv ↔ n ≤ k ∧ lv[k - n]? = some (some v)
  | [], n, k, v => by simp [zL]
  | none :: r, n, k, v => by
    rw [zL, zL_mem r (n + 1) k v]
    constructor
    · rintro ⟨h1, h2⟩
      refine ⟨by omega, ?_⟩
      rw [show k - n = (k - (n + 1)) + 1 by omega, List.getElem?_cons_succ]
      exact h2
    · rintro ⟨h1, h2⟩
      rcases Nat.eq_or_lt_of_le h1 with q | q
      · subst q
        rw [Nat.sub_self] at h2
        simp at h2
      · refine ⟨q, ?_⟩
        rw [show k - n = (k - (n + 1)) + 1 by omega, List.getElem?_cons_succ] at h2
        exact h2
  | some x :: r, n, k, v => by
    rw [zL, List.mem_cons, zL_mem r (n + 1) k v]
    constructor
    · rintro (h | ⟨h1, h2⟩)
      · cases h
        refine ⟨Nat.le_refl _, ?_⟩
        rw [Nat.sub_self]
        rfl
      · refine ⟨by omega, ?_⟩
        rw [show k - n = (k - (n + 1)) + 1 by omega, List.getElem?_cons_succ]
        exact h2
    · rintro ⟨h1, h2⟩
      rcases Nat.eq_or_lt_of_le h1 with q | q
      · subst q
        rw [Nat.sub_self] at h2
        simp at h2
        exact Or.inl (by rw [h2])
      · refine Or.inr ⟨q, ?_⟩
        rw [show k - n = (k - (n + 1)) + 1 by omega, List.getElem?_cons_succ] at h2
        exact h2
theorem zL_at {ls : Array Slot} {nL k : Nat} {lv : List (Option Value)} {v : Value} (h : lv_has ls nL (zL 0 lv)) (hk : lv[k]? = some (some v)) : ls[k]? = some (.val v) := h.2.2 (k, v) ((zL_mem lv 0 k v).mpr ⟨Nat.zero_le _, hk⟩)
theorem zL_less {ls : Array Slot} {nL : Nat} {l l' : List (Nat × Value)} (h : lv_has ls nL l) (hs : ∀ q ∈ l', q ∈ l) : lv_has ls nL l' := ⟨h.1, h.2.1, fun q hq => h.2.2 q (hs q hq)⟩
/-- no long stands just ahead of local i -/
def zok (lv : List (Option Value)) : Nat → Bool
  | 0 => true
  | i + 1 => match lv[i]? with
    | some (some v) => v.category == 1
    | _ => true
theorem zL_set {lv : List (Option Value)} {i : Nat} {v : Value} (hok : zok lv i = true) : ∀ q ∈ zL 0 (lv.set i (some v)), q ∈ (i, v) :: (zL 0 lv).filter (fun q => !(q.1 == i) && !(q.1 + 1 == i && q.2.category == 2)) := by
  rintro ⟨k, x⟩ hq
  obtain ⟨-, h2⟩ := (zL_mem _ 0 k x).mp hq
  rw [Nat.sub_zero] at h2
  by_cases hk : k = i
  · subst hk
    have hl : k < lv.length := by
      have := (List.getElem?_eq_some_iff.mp h2).1
      rwa [List.length_set] at this
    rw [List.getElem?_set_self hl] at h2
    have : v = x := by simpa using h2
    subst this
    exact List.mem_cons_self
  · rw [List.getElem?_set_ne (Ne.symm hk)] at h2
    refine List.mem_cons_of_mem _ (List.mem_filter.mpr ⟨(zL_mem lv 0 k x).mpr ⟨Nat.zero_le _, h2⟩, ?_⟩)
    have h1 : (k == i) = false := by simpa using hk
    by_cases hk1 : k + 1 = i
    · subst hk1
      simp only [zok, h2, beq_iff_eq] at hok
      simp [hok]
    · have h3 : (k + 1 == i) = false := by simpa using hk1
      simp [h3, hk]
theorem zL_set2 {lv : List (Option Value)} {i : Nat} {v : Value} (hok : zok lv i = true) : ∀ q ∈ zL 0 ((lv.set i (some v)).set (i + 1) none), q ∈ (i, v) :: (zL 0 lv).filter (fun q => !(q.1 == i) && (!(q.1 == i + 1) && !(q.1 + 1 == i && q.2.category == 2))) := by
  rintro ⟨k, x⟩ hq
  obtain ⟨-, h2⟩ := (zL_mem _ 0 k x).mp hq
  rw [Nat.sub_zero] at h2
  by_cases hk2 : k = i + 1
  · subst hk2
    have hl : i + 1 < (lv.set i (some v)).length := by
      have := (List.getElem?_eq_some_iff.mp h2).1
      rwa [List.length_set] at this
    rw [List.getElem?_set_self hl] at h2
    simp at h2
  · rw [List.getElem?_set_ne (Ne.symm hk2)] at h2
    by_cases hk : k = i
    · subst hk
      have hl : k < lv.length := by
        have := (List.getElem?_eq_some_iff.mp h2).1
        rwa [List.length_set] at this
      rw [List.getElem?_set_self hl] at h2
      have : v = x := by simpa using h2
      subst this
      exact List.mem_cons_self
    · rw [List.getElem?_set_ne (Ne.symm hk)] at h2
      refine List.mem_cons_of_mem _ (List.mem_filter.mpr ⟨(zL_mem lv 0 k x).mpr ⟨Nat.zero_le _, h2⟩, ?_⟩)
      by_cases hk1 : k + 1 = i
      · subst hk1
        simp only [zok, h2, beq_iff_eq] at hok
        simp [hok, hk2]
      · have h3 : (k + 1 == i) = false := by simpa using hk1
        simp [h3, hk, hk2]
/-- the words that every method may ask for -/
def zTb : List Cond := lw_tbl.filter goodWord
theorem zTb_in {c : Cond} (h : c ∈ lw_tbl) (hg : goodWord c = true) : c ∈ zTb := List.mem_filter.mpr ⟨h, hg⟩
/-- the Tape's own text and String's static, which lie outside A -/
def zSt (w : zE) (A : Nat → Prop) (U : State) (H : Heap) : Prop := vk_R "GladRoad$Tape" 77 "pbum" (w.2.2 200) U ∧ vk_S 1 [4] [[112, 98, 117, 109]] (fun _ => w.2.2 200) (fun _ => w.2.2 201) A U H ∧ va_Z "java/lang/String" "COMPACT_STRINGS" "Z" (.int 1) A U H
theorem zSt_use {w : zE} {A : Nat → Prop} {s U : State} {H : Heap} {locs : List Loc} (h : zSt w A s s.heap) (hS : va_S A s.heap H locs) (hA : ∀ q, zA w q → A q) (hW : s.WarmedH U.vm) (hU : U.heap = H) : zSt w (zA w) U U.heap := by
  subst hU
  exact ⟨vk_R.warm hW h.1, ((h.2.1.kept hS.2.1).narrow hA).moved hW.alike, ((h.2.2.kept hS.2.1).narrow hA).moved hW.alike⟩
def ZW (w : zE) (g : zG) (nL pc : Nat) (lv : List (Option Value)) (st : List Value) (M : zM) : Prop :=
  ∀ (H : Heap) (locs : List Loc) (ls : Array Slot), lv_has ls nL (zL 0 lv) → zP w M H → va_S g.2.2.2.1 g.2.1.1.heap H locs → W g.1.1 g.1.2.1 g.1.2.2.1 g.1.2.2.2 g.2.1.1 g.2.1.2.1 g.2.1.2.2.1 g.2.1.2.2.2 g.2.2.1.1 g.2.2.1.2.1 H locs g.2.2.1.2.2.1 g.2.2.1.2.2.2 g.2.2.2.2 (F0 g.2.1.2.1 pc ls st)
/-- what holds all along: the machine, the code, the tables, the classes, the room (D frames deep) -/
def zF (w : zE) (g : zG) (own : String) (cc : ByteArray) (nL D : Nat) : Prop :=
  g.1.1.tables.exec = Jvm.exec ∧ g.2.2.1.2.1.code = cc ∧ g.2.2.1.2.1.maxLocals = nL ∧ g.2.1.1.vm.findClass own = some g.2.1.2.1.cls ∧ (∀ c ∈ zTb, c.before g.2.1.2.2.1 g.2.1.1 = true) ∧ g.2.2.1.1.locks = false ∧ va_K w.1 vwCl (zT w) g.2.1.1 ∧ zJ w ∧ (∀ i, i < 154 → g.2.2.2.1 (w.2.2 i)) ∧ D ≤ g.1.2.2.2.frames ∧ 60 * D ≤ g.1.2.2.2.locals ∧ g.2.2.1.2.2.1 ≤ g.1.2.2.2.cells ∧ g.2.2.1.2.2.2 ≤ g.1.2.2.2.slots ∧ zSt w g.2.2.2.1 g.2.1.1 g.2.1.1.heap
section ZR
variable {w : zE} {g : zG} {own : String} {cc : ByteArray} {nL D pc : Nat} {lv lv' : List (Option Value)} {st : List Value} {M : zM}
theorem z_iconst {n : Int} {v : Int32} (F : zF w g own cc nL D) (hd : decode cc pc = .ok (.iconst n, 1)) (hv : Int32.ofInt n = v) (k : ZW w g nL (pc + 1) lv (.int v :: st) M) : ZW w g nL (pc) lv (st) M := fun H locs ls hl hP hS => lv_iconst F.1 F.2.1 hd hv (k H locs ls hl hP hS)
theorem z_bipush {n : Int} {v : Int32} (F : zF w g own cc nL D) (hd : decode cc pc = .ok (.bipush n, 2)) (hv : (Int8.ofInt n).toInt32 = v) (k : ZW w g nL (pc + 2) lv (.int v :: st) M) : ZW w g nL (pc) lv (st) M := fun H locs ls hl hP hS => lv_bipush F.1 F.2.1 hd hv (k H locs ls hl hP hS)
theorem z_sipush {n : Int} {v : Int32} (F : zF w g own cc nL D) (hd : decode cc pc = .ok (.sipush n, 3)) (hv : (Int16.ofInt n).toInt32 = v) (k : ZW w g nL (pc + 3) lv (.int v :: st) M) : ZW w g nL (pc) lv (st) M := fun H locs ls hl hP hS => lv_sipush F.1 F.2.1 hd hv (k H locs ls hl hP hS)
theorem z_lconst {n : Fin 2} {v : Int64} (F : zF w g own cc nL D) (hd : decode cc pc = .ok (.lconst n, 1)) (hv : Int64.ofNat (n : Nat) = v) (k : ZW w g nL (pc + 1) lv (.long v :: st) M) : ZW w g nL (pc) lv (st) M := fun H locs ls hl hP hS => lv_lconst F.1 F.2.1 hd hv (k H locs ls hl hP hS)
theorem z_iload_n {n : Fin 4} {x : Int32} (F : zF w g own cc nL D) (hd : decode cc pc = .ok (.iload_n n, 1)) (hv : lv[(n : Nat)]? = some (some (.int x))) (k : ZW w g nL (pc + 1) lv (.int x :: st) M) : ZW w g nL (pc) lv (st) M := fun H locs ls hl hP hS => lv_iload_n F.1 F.2.1 hd rfl (zL_at hl hv) (k H locs ls hl hP hS)
theorem z_iload {n : Nat} {x : Int32} (F : zF w g own cc nL D) (hd : decode cc pc = .ok (.iload n, 2)) (hv : lv[n]? = some (some (.int x))) (k : ZW w g nL (pc + 2) lv (.int x :: st) M) : ZW w g nL (pc) lv (st) M := fun H locs ls hl hP hS => lv_iload F.1 F.2.1 hd (zL_at hl hv) (k H locs ls hl hP hS)
theorem z_lload_n {n : Fin 4} {x : Int64} (F : zF w g own cc nL D) (hd : decode cc pc = .ok (.lload_n n, 1)) (hv : lv[(n : Nat)]? = some (some (.long x))) (k : ZW w g nL (pc + 1) lv (.long x :: st) M) : ZW w g nL (pc) lv (st) M := fun H locs ls hl hP hS => lv_lload_n F.1 F.2.1 hd rfl (zL_at hl hv) (k H locs ls hl hP hS)
theorem z_lload {n : Nat} {x : Int64} (F : zF w g own cc nL D) (hd : decode cc pc = .ok (.lload n, 2)) (hv : lv[n]? = some (some (.long x))) (k : ZW w g nL (pc + 2) lv (.long x :: st) M) : ZW w g nL (pc) lv (st) M := fun H locs ls hl hP hS => lv_lload F.1 F.2.1 hd (zL_at hl hv) (k H locs ls hl hP hS)
theorem z_aload_n {n : Fin 4} {x : Nat} (F : zF w g own cc nL D) (hd : decode cc pc = .ok (.aload_n n, 1)) (hv : lv[(n : Nat)]? = some (some (.ref x))) (k : ZW w g nL (pc + 1) lv (.ref x :: st) M) : ZW w g nL (pc) lv (st) M := fun H locs ls hl hP hS => lv_aload_n F.1 F.2.1 hd rfl (zL_at hl hv) (k H locs ls hl hP hS)
theorem z_aload {n : Nat} {x : Nat} (F : zF w g own cc nL D) (hd : decode cc pc = .ok (.aload n, 2)) (hv : lv[n]? = some (some (.ref x))) (k : ZW w g nL (pc + 2) lv (.ref x :: st) M) : ZW w g nL (pc) lv (st) M := fun H locs ls hl hP hS => lv_aload F.1 F.2.1 hd (zL_at hl hv) (k H locs ls hl hP hS)
theorem z_istore_n {n : Fin 4} {x : Int32} (F : zF w g own cc nL D) (hd : decode cc pc = .ok (.istore_n n, 1)) (hn : (n : Nat) < nL) (hok : zok lv (n : Nat) = true) (he : lv.set (n : Nat) (some (.int x)) = lv') (k : ZW w g nL (pc + 1) lv' (st) M) : ZW w g nL (pc) lv (.int x :: st) M := fun H locs ls hl hP hS => lv_istore_n F.1 F.2.1 hd rfl hl hn rfl (fun ls2 hl2 => k H locs ls2 (he ▸ zL_less hl2 (zL_set hok)) hP hS)
theorem z_istore {n : Nat} {x : Int32} (F : zF w g own cc nL D) (hd : decode cc pc = .ok (.istore n, 2)) (hn : n < nL) (hok : zok lv n = true) (he : lv.set n (some (.int x)) = lv') (k : ZW w g nL (pc + 2) lv' (st) M) : ZW w g nL (pc) lv (.int x :: st) M := fun H locs ls hl hP hS => lv_istore F.1 F.2.1 hd hl hn rfl (fun ls2 hl2 => k H locs ls2 (he ▸ zL_less hl2 (zL_set hok)) hP hS)
theorem z_astore_n {n : Fin 4} {x : Nat} (F : zF w g own cc nL D) (hd : decode cc pc = .ok (.astore_n n, 1)) (hn : (n : Nat) < nL) (hok : zok lv (n : Nat) = true) (he : lv.set (n : Nat) (some (.ref x)) = lv') (k : ZW w g nL (pc + 1) lv' (st) M) : ZW w g nL (pc) lv (.ref x :: st) M := fun H locs ls hl hP hS => lv_astore_n F.1 F.2.1 hd rfl hl hn rfl (fun ls2 hl2 => k H locs ls2 (he ▸ zL_less hl2 (zL_set hok)) hP hS)
theorem z_astore {n : Nat} {x : Nat} (F : zF w g own cc nL D) (hd : decode cc pc = .ok (.astore n, 2)) (hn : n < nL) (hok : zok lv n = true) (he : lv.set n (some (.ref x)) = lv') (k : ZW w g nL (pc + 2) lv' (st) M) : ZW w g nL (pc) lv (.ref x :: st) M := fun H locs ls hl hP hS => lv_astore F.1 F.2.1 hd hl hn rfl (fun ls2 hl2 => k H locs ls2 (he ▸ zL_less hl2 (zL_set hok)) hP hS)
theorem z_lstore {n : Nat} {x : Int64} (F : zF w g own cc nL D) (hd : decode cc pc = .ok (.lstore n, 2)) (hn : n + 1 < nL) (hok : zok lv n = true) (he : (lv.set n (some (.long x))).set (n + 1) none = lv') (k : ZW w g nL (pc + 2) lv' (st) M) : ZW w g nL (pc) lv (.long x :: st) M := fun H locs ls hl hP hS => lv_lstore F.1 F.2.1 hd hl hn rfl (fun ls2 hl2 => k H locs ls2 (he ▸ zL_less hl2 (zL_set2 hok)) hP hS)
theorem z_lstore_n {n : Fin 4} {x : Int64} (F : zF w g own cc nL D) (hd : decode cc pc = .ok (.lstore_n n, 1)) (hn : (n : Nat) + 1 < nL) (hok : zok lv (n : Nat) = true) (he : (lv.set (n : Nat) (some (.long x))).set ((n : Nat) + 1) none = lv') (k : ZW w g nL (pc + 1) lv' (st) M) : ZW w g nL (pc) lv (.long x :: st) M := fun H locs ls hl hP hS => lv_lstore_n F.1 F.2.1 hd rfl hl hn rfl (fun ls2 hl2 => k H locs ls2 (he ▸ zL_less hl2 (zL_set2 hok)) hP hS)
theorem z_iinc {n : Nat} {j : Int} {x v : Int32} (F : zF w g own cc nL D) (hd : decode cc pc = .ok (.iinc n j, 3)) (hv : lv[n]? = some (some (.int x))) (hj : x + Int32.ofInt j = v) (hn : n < nL) (hok : zok lv n = true) (he : lv.set n (some (.int v)) = lv') (k : ZW w g nL (pc + 3) lv' (st) M) : ZW w g nL (pc) lv (st) M := fun H locs ls hl hP hS => by
  obtain ⟨q, hq⟩ := List.getElem?_of_mem ((zL_mem lv 0 n _).mpr ⟨Nat.zero_le _, hv⟩)
  exact lv_iinc F.1 F.2.1 hd hl hq hj hn rfl (fun ls2 hl2 => k H locs ls2 (he ▸ zL_less hl2 (zL_set hok)) hP hS)
theorem z_iadd {x y : Int32} (F : zF w g own cc nL D) (hd : decode cc pc = .ok (.iadd, 1))  (k : ZW w g nL (pc + 1) lv (.int (x + y) :: st) M) : ZW w g nL (pc) lv (.int y :: .int x :: st) M := fun H locs ls hl hP hS => lv_iadd F.1 F.2.1 hd  (k H locs ls hl hP hS)
theorem z_isub {x y : Int32} (F : zF w g own cc nL D) (hd : decode cc pc = .ok (.isub, 1))  (k : ZW w g nL (pc + 1) lv (.int (x - y) :: st) M) : ZW w g nL (pc) lv (.int y :: .int x :: st) M := fun H locs ls hl hP hS => lv_isub F.1 F.2.1 hd  (k H locs ls hl hP hS)
theorem z_imul {x y : Int32} (F : zF w g own cc nL D) (hd : decode cc pc = .ok (.imul, 1))  (k : ZW w g nL (pc + 1) lv (.int (x * y) :: st) M) : ZW w g nL (pc) lv (.int y :: .int x :: st) M := fun H locs ls hl hP hS => lv_imul F.1 F.2.1 hd  (k H locs ls hl hP hS)
theorem z_iand {x y : Int32} (F : zF w g own cc nL D) (hd : decode cc pc = .ok (.iand, 1))  (k : ZW w g nL (pc + 1) lv (.int (x &&& y) :: st) M) : ZW w g nL (pc) lv (.int y :: .int x :: st) M := fun H locs ls hl hP hS => lv_iand F.1 F.2.1 hd  (k H locs ls hl hP hS)
theorem z_ior {x y : Int32} (F : zF w g own cc nL D) (hd : decode cc pc = .ok (.ior, 1))  (k : ZW w g nL (pc + 1) lv (.int (x ||| y) :: st) M) : ZW w g nL (pc) lv (.int y :: .int x :: st) M := fun H locs ls hl hP hS => lv_ior F.1 F.2.1 hd  (k H locs ls hl hP hS)
theorem z_ixor {x y : Int32} (F : zF w g own cc nL D) (hd : decode cc pc = .ok (.ixor, 1))  (k : ZW w g nL (pc + 1) lv (.int (x ^^^ y) :: st) M) : ZW w g nL (pc) lv (.int y :: .int x :: st) M := fun H locs ls hl hP hS => lv_ixor F.1 F.2.1 hd  (k H locs ls hl hP hS)
theorem z_ishl {x y : Int32} (F : zF w g own cc nL D) (hd : decode cc pc = .ok (.ishl, 1))  (k : ZW w g nL (pc + 1) lv (.int (x <<< (y &&& 31)) :: st) M) : ZW w g nL (pc) lv (.int y :: .int x :: st) M := fun H locs ls hl hP hS => lv_ishl F.1 F.2.1 hd  (k H locs ls hl hP hS)
theorem z_ishr {x y : Int32} (F : zF w g own cc nL D) (hd : decode cc pc = .ok (.ishr, 1))  (k : ZW w g nL (pc + 1) lv (.int (x >>> (y &&& 31)) :: st) M) : ZW w g nL (pc) lv (.int y :: .int x :: st) M := fun H locs ls hl hP hS => lv_ishr F.1 F.2.1 hd  (k H locs ls hl hP hS)
theorem z_idiv {x y : Int32} (F : zF w g own cc nL D) (hd : decode cc pc = .ok (.idiv, 1)) (hne : ¬ y = 0) (k : ZW w g nL (pc + 1) lv (.int (x / y) :: st) M) : ZW w g nL (pc) lv (.int y :: .int x :: st) M := fun H locs ls hl hP hS => lv_idiv F.1 F.2.1 hd hne (k H locs ls hl hP hS)
theorem z_irem {x y : Int32} (F : zF w g own cc nL D) (hd : decode cc pc = .ok (.irem, 1)) (hne : ¬ y = 0) (k : ZW w g nL (pc + 1) lv (.int (x - x / y * y) :: st) M) : ZW w g nL (pc) lv (.int y :: .int x :: st) M := fun H locs ls hl hP hS => lv_irem F.1 F.2.1 hd hne (k H locs ls hl hP hS)
theorem z_ladd {x y : Int64} (F : zF w g own cc nL D) (hd : decode cc pc = .ok (.ladd, 1))  (k : ZW w g nL (pc + 1) lv (.long (x + y) :: st) M) : ZW w g nL (pc) lv (.long y :: .long x :: st) M := fun H locs ls hl hP hS => lv_ladd F.1 F.2.1 hd  (k H locs ls hl hP hS)
theorem z_land {x y : Int64} (F : zF w g own cc nL D) (hd : decode cc pc = .ok (.land, 1))  (k : ZW w g nL (pc + 1) lv (.long (x &&& y) :: st) M) : ZW w g nL (pc) lv (.long y :: .long x :: st) M := fun H locs ls hl hP hS => lv_land F.1 F.2.1 hd  (k H locs ls hl hP hS)
theorem z_lor {x y : Int64} (F : zF w g own cc nL D) (hd : decode cc pc = .ok (.lor, 1))  (k : ZW w g nL (pc + 1) lv (.long (x ||| y) :: st) M) : ZW w g nL (pc) lv (.long y :: .long x :: st) M := fun H locs ls hl hP hS => lv_lor F.1 F.2.1 hd  (k H locs ls hl hP hS)
theorem z_lshl {x : Int64} {y : Int32} (F : zF w g own cc nL D) (hd : decode cc pc = .ok (.lshl, 1))  (k : ZW w g nL (pc + 1) lv (.long (x <<< (y.toInt64 &&& 63)) :: st) M) : ZW w g nL (pc) lv (.int y :: .long x :: st) M := fun H locs ls hl hP hS => lv_lshl F.1 F.2.1 hd rfl (k H locs ls hl hP hS)
theorem z_i2l {x : Int32} (F : zF w g own cc nL D) (hd : decode cc pc = .ok (.i2l, 1))  (k : ZW w g nL (pc + 1) lv (.long (x.toInt64) :: st) M) : ZW w g nL (pc) lv (.int x :: st) M := fun H locs ls hl hP hS => lv_i2l F.1 F.2.1 hd rfl (k H locs ls hl hP hS)
theorem z_l2i {x : Int64} (F : zF w g own cc nL D) (hd : decode cc pc = .ok (.l2i, 1))  (k : ZW w g nL (pc + 1) lv (.int (x.toInt32) :: st) M) : ZW w g nL (pc) lv (.long x :: st) M := fun H locs ls hl hP hS => lv_l2i F.1 F.2.1 hd rfl (k H locs ls hl hP hS)
theorem z_i2b {x : Int32} (F : zF w g own cc nL D) (hd : decode cc pc = .ok (.i2b, 1))  (k : ZW w g nL (pc + 1) lv (.int (x.toInt8.toInt32) :: st) M) : ZW w g nL (pc) lv (.int x :: st) M := fun H locs ls hl hP hS => lv_i2b F.1 F.2.1 hd rfl (k H locs ls hl hP hS)
theorem z_i2s {x : Int32} (F : zF w g own cc nL D) (hd : decode cc pc = .ok (.i2s, 1))  (k : ZW w g nL (pc + 1) lv (.int (x.toInt16.toInt32) :: st) M) : ZW w g nL (pc) lv (.int x :: st) M := fun H locs ls hl hP hS => lv_i2s F.1 F.2.1 hd rfl (k H locs ls hl hP hS)
theorem z_i2c {x : Int32} (F : zF w g own cc nL D) (hd : decode cc pc = .ok (.i2c, 1))  (k : ZW w g nL (pc + 1) lv (.int ((x.toUInt32 % 65536).toInt32) :: st) M) : ZW w g nL (pc) lv (.int x :: st) M := fun H locs ls hl hP hS => lv_i2c F.1 F.2.1 hd rfl (k H locs ls hl hP hS)
theorem z_lcmp {x y : Int64} (F : zF w g own cc nL D) (hd : decode cc pc = .ok (.lcmp, 1))  (k : ZW w g nL (pc + 1) lv (.int (lg_cmp x y) :: st) M) : ZW w g nL (pc) lv (.long y :: .long x :: st) M := fun H locs ls hl hP hS => W.lcmp F.1 F.2.1 hd  (k H locs ls hl hP hS)
theorem z_dup {v : Value} (F : zF w g own cc nL D) (hd : decode cc pc = .ok (.dup, 1)) (hc : v.category = 1) (k : ZW w g nL (pc + 1) lv (v :: v :: st) M) : ZW w g nL (pc) lv (v :: st) M := fun H locs ls hl hP hS => lv_dup F.1 F.2.1 hd hc (k H locs ls hl hP hS)
theorem z_pop {v : Value} (F : zF w g own cc nL D) (hd : decode cc pc = .ok (.pop, 1)) (hc : v.category = 1) (k : ZW w g nL (pc + 1) lv (st) M) : ZW w g nL (pc) lv (v :: st) M := fun H locs ls hl hP hS => lv_pop F.1 F.2.1 hd hc (k H locs ls hl hP hS)
theorem z_dup2 {a b : Value} (F : zF w g own cc nL D) (hd : decode cc pc = .ok (.dup2, 1)) (hc : a.category = 1) (hc2 : b.category = 1) (k : ZW w g nL (pc + 1) lv (a :: b :: a :: b :: st) M) : ZW w g nL (pc) lv (a :: b :: st) M := fun H locs ls hl hP hS => lv_dup2_11 F.1 F.2.1 hd hc hc2 (k H locs ls hl hP hS)
theorem z_ldc2 {n : Nat} {v : Int64} (F : zF w g own cc nL D) (hd : decode cc pc = .ok (.ldc2_w n, 3)) (hc : Cond.constantLong own n v ∈ zTb) (k : ZW w g nL (pc + 3) lv (.long v :: st) M) : ZW w g nL (pc) lv (st) M := fun H locs ls hl hP hS => lv_ldc2 F.1 F.2.1 F.2.2.2.1 (F.2.2.2.2.1 _ hc) hd (k H locs ls hl hP hS)
theorem z_if_eq {x : Int32} {off : Int} {tgt : Nat} (F : zF w g own cc nL D) (hd : decode cc pc = .ok (.ifCond .eq off, 3)) (ht : (pc : Int) + off = (tgt : Int)) (kt : x = 0 → ZW w g nL (tgt) lv (st) M) (kf : ¬ x = 0 → ZW w g nL (pc + 3) lv (st) M) : ZW w g nL (pc) lv (.int x :: st) M := fun H locs ls hl hP hS => lv_if_eq F.1 F.2.1 hd ht (fun q => kt q H locs ls hl hP hS) (fun q => kf q H locs ls hl hP hS)
theorem z_if_ne {x : Int32} {off : Int} {tgt : Nat} (F : zF w g own cc nL D) (hd : decode cc pc = .ok (.ifCond .ne off, 3)) (ht : (pc : Int) + off = (tgt : Int)) (kt : ¬ x = 0 → ZW w g nL (tgt) lv (st) M) (kf : x = 0 → ZW w g nL (pc + 3) lv (st) M) : ZW w g nL (pc) lv (.int x :: st) M := fun H locs ls hl hP hS => lv_if_ne F.1 F.2.1 hd ht (fun q => kt q H locs ls hl hP hS) (fun q => kf q H locs ls hl hP hS)
theorem z_if_lt {x : Int32} {off : Int} {tgt : Nat} (F : zF w g own cc nL D) (hd : decode cc pc = .ok (.ifCond .lt off, 3)) (ht : (pc : Int) + off = (tgt : Int)) (kt : x < 0 → ZW w g nL (tgt) lv (st) M) (kf : 0 ≤ x → ZW w g nL (pc + 3) lv (st) M) : ZW w g nL (pc) lv (.int x :: st) M := fun H locs ls hl hP hS => lv_if_lt F.1 F.2.1 hd ht (fun q => kt q H locs ls hl hP hS) (fun q => kf (Int32.not_lt.mp q) H locs ls hl hP hS)
theorem z_if_ge {x : Int32} {off : Int} {tgt : Nat} (F : zF w g own cc nL D) (hd : decode cc pc = .ok (.ifCond .ge off, 3)) (ht : (pc : Int) + off = (tgt : Int)) (kt : 0 ≤ x → ZW w g nL (tgt) lv (st) M) (kf : x < 0 → ZW w g nL (pc + 3) lv (st) M) : ZW w g nL (pc) lv (.int x :: st) M := fun H locs ls hl hP hS => lv_if_ge F.1 F.2.1 hd ht (fun q => kt q H locs ls hl hP hS) (fun q => kf (Int32.not_le.mp q) H locs ls hl hP hS)
theorem z_if_gt {x : Int32} {off : Int} {tgt : Nat} (F : zF w g own cc nL D) (hd : decode cc pc = .ok (.ifCond .gt off, 3)) (ht : (pc : Int) + off = (tgt : Int)) (kt : 0 < x → ZW w g nL (tgt) lv (st) M) (kf : x ≤ 0 → ZW w g nL (pc + 3) lv (st) M) : ZW w g nL (pc) lv (.int x :: st) M := fun H locs ls hl hP hS => lv_if_gt F.1 F.2.1 hd ht (fun q => kt q H locs ls hl hP hS) (fun q => kf (Int32.not_lt.mp q) H locs ls hl hP hS)
theorem z_if_le {x : Int32} {off : Int} {tgt : Nat} (F : zF w g own cc nL D) (hd : decode cc pc = .ok (.ifCond .le off, 3)) (ht : (pc : Int) + off = (tgt : Int)) (kt : x ≤ 0 → ZW w g nL (tgt) lv (st) M) (kf : 0 < x → ZW w g nL (pc + 3) lv (st) M) : ZW w g nL (pc) lv (.int x :: st) M := fun H locs ls hl hP hS => lv_if_le F.1 F.2.1 hd ht (fun q => kt q H locs ls hl hP hS) (fun q => kf (Int32.not_le.mp q) H locs ls hl hP hS)
theorem z_ic_eq {x y : Int32} {off : Int} {tgt : Nat} (F : zF w g own cc nL D) (hd : decode cc pc = .ok (.if_icmp .eq off, 3)) (ht : (pc : Int) + off = (tgt : Int)) (kt : x = y → ZW w g nL (tgt) lv (st) M) (kf : ¬ x = y → ZW w g nL (pc + 3) lv (st) M) : ZW w g nL (pc) lv (.int y :: .int x :: st) M := fun H locs ls hl hP hS => lv_icmp_eq F.1 F.2.1 hd ht (fun q => kt q H locs ls hl hP hS) (fun q => kf q H locs ls hl hP hS)
theorem z_ic_ne {x y : Int32} {off : Int} {tgt : Nat} (F : zF w g own cc nL D) (hd : decode cc pc = .ok (.if_icmp .ne off, 3)) (ht : (pc : Int) + off = (tgt : Int)) (kt : ¬ x = y → ZW w g nL (tgt) lv (st) M) (kf : x = y → ZW w g nL (pc + 3) lv (st) M) : ZW w g nL (pc) lv (.int y :: .int x :: st) M := fun H locs ls hl hP hS => lv_icmp_ne F.1 F.2.1 hd ht (fun q => kt q H locs ls hl hP hS) (fun q => kf q H locs ls hl hP hS)
theorem z_ic_lt {x y : Int32} {off : Int} {tgt : Nat} (F : zF w g own cc nL D) (hd : decode cc pc = .ok (.if_icmp .lt off, 3)) (ht : (pc : Int) + off = (tgt : Int)) (kt : x < y → ZW w g nL (tgt) lv (st) M) (kf : y ≤ x → ZW w g nL (pc + 3) lv (st) M) : ZW w g nL (pc) lv (.int y :: .int x :: st) M := fun H locs ls hl hP hS => lv_icmp_lt F.1 F.2.1 hd ht (fun q => kt q H locs ls hl hP hS) (fun q => kf (Int32.not_lt.mp q) H locs ls hl hP hS)
theorem z_ic_ge {x y : Int32} {off : Int} {tgt : Nat} (F : zF w g own cc nL D) (hd : decode cc pc = .ok (.if_icmp .ge off, 3)) (ht : (pc : Int) + off = (tgt : Int)) (kt : y ≤ x → ZW w g nL (tgt) lv (st) M) (kf : x < y → ZW w g nL (pc + 3) lv (st) M) : ZW w g nL (pc) lv (.int y :: .int x :: st) M := fun H locs ls hl hP hS => lv_icmp_ge F.1 F.2.1 hd ht (fun q => kt q H locs ls hl hP hS) (fun q => kf (Int32.not_le.mp q) H locs ls hl hP hS)
theorem z_ic_gt {x y : Int32} {off : Int} {tgt : Nat} (F : zF w g own cc nL D) (hd : decode cc pc = .ok (.if_icmp .gt off, 3)) (ht : (pc : Int) + off = (tgt : Int)) (kt : y < x → ZW w g nL (tgt) lv (st) M) (kf : x ≤ y → ZW w g nL (pc + 3) lv (st) M) : ZW w g nL (pc) lv (.int y :: .int x :: st) M := fun H locs ls hl hP hS => lv_icmp_gt F.1 F.2.1 hd ht (fun q => kt q H locs ls hl hP hS) (fun q => kf (Int32.not_lt.mp q) H locs ls hl hP hS)
theorem z_ic_le {x y : Int32} {off : Int} {tgt : Nat} (F : zF w g own cc nL D) (hd : decode cc pc = .ok (.if_icmp .le off, 3)) (ht : (pc : Int) + off = (tgt : Int)) (kt : x ≤ y → ZW w g nL (tgt) lv (st) M) (kf : y < x → ZW w g nL (pc + 3) lv (st) M) : ZW w g nL (pc) lv (.int y :: .int x :: st) M := fun H locs ls hl hP hS => lv_icmp_le F.1 F.2.1 hd ht (fun q => kt q H locs ls hl hP hS) (fun q => kf (Int32.not_le.mp q) H locs ls hl hP hS)
theorem z_goto {off : Int} {tgt : Nat} (F : zF w g own cc nL D) (hd : decode cc pc = .ok (.goto off, 3)) (ht : (pc : Int) + off = (tgt : Int)) (k : ZW w g nL (tgt) lv (st) M) : ZW w g nL (pc) lv (st) M := fun H locs ls hl hP hS => lv_goto F.1 F.2.1 hd ht (k H locs ls hl hP hS)
theorem z_tableIn {dflt lo hi : Int} {offs : Array Int} {len : Nat} {x : Int32} {off : Int} {tgt : Nat} (F : zF w g own cc nL D) (hd : decode cc pc = .ok (.tableswitch dflt lo hi offs, len)) (h1 : ¬ x.toInt < lo) (h2 : ¬ hi < x.toInt) (ho : offs[(x.toInt - lo).toNat]? = some off) (ht : (pc : Int) + off = (tgt : Int)) (k : ZW w g nL (tgt) lv (st) M) : ZW w g nL (pc) lv (.int x :: st) M := fun H locs ls hl hP hS => lv_tableIn F.1 F.2.1 hd h1 h2 ho ht (k H locs ls hl hP hS)
theorem z_tableOut {dflt lo hi : Int} {offs : Array Int} {len : Nat} {x : Int32} {tgt : Nat} (F : zF w g own cc nL D) (hd : decode cc pc = .ok (.tableswitch dflt lo hi offs, len)) (h : x.toInt < lo ∨ hi < x.toInt) (ht : (pc : Int) + dflt = (tgt : Int)) (k : ZW w g nL (tgt) lv (st) M) : ZW w g nL (pc) lv (.int x :: st) M := fun H locs ls hl hP hS => lv_tableOut F.1 F.2.1 hd h ht (k H locs ls hl hP hS)
theorem z_lookup {dflt : Int} {ps : Array (Int × Int)} {len : Nat} {x : Int32} {off : Int} {tgt : Nat} (F : zF w g own cc nL D) (hd : decode cc pc = .ok (.lookupswitch dflt ps, len)) (hp : (ps.toList.zip (ps.toList.drop 1)).all (fun (a, next) => a.1 < next.1) = true) (ho : Op.lookupswitch.offset ps.toList dflt x.toInt = off) (ht : (pc : Int) + off = (tgt : Int)) (k : ZW w g nL (tgt) lv (st) M) : ZW w g nL (pc) lv (.int x :: st) M := fun H locs ls hl hP hS => lv_lookup F.1 F.2.1 hd hp ho ht (k H locs ls hl hP hS)
theorem zc_eq {w : zE} {M : zM} {i k : Nat} (h : zk i = k) : zc w M i = zcK w M i k := by unfold zc; rw [h]
theorem z_get {C : String} {T : u_T} {N ci i idx j : Nat} {fs : List Value} {v : Value} (F : zF w g own cc nL D) (hi : i < 154) (he : zc w M i = .inr (ci, fs)) (hc : vwCl[ci]? = some (C, T, N)) (hin : ∀ c ∈ u_ws C T N, c ∈ zTb) (hj : j < N) (hdec : (T j).1 = C) (hl : Cond.fieldLink own idx C (T j).2.1 (T j).2.2.1 ∈ zTb) (hv : fs[j]? = some v) (hd : decode cc pc = .ok (.getfield idx, 3)) (k : ZW w g nL (pc + 3) lv (v :: st) M) : ZW w g nL (pc) lv (.ref (w.2.2 i) :: st) M := fun H locs ls hl1 hP hS =>
  va_get F.1 F.2.1 F.2.2.2.2.1 hin F.2.2.2.1 F.2.2.2.2.2.2.1 hP.P i (by rw [zL0_at hi, he]) hc j hj (F.2.2.2.2.1 _ hl) (fun _ h => by rw [hdec] at h; exact h) hv hd (k H locs ls hl1 hP hS)
theorem z_put {C : String} {T : u_T} {N ci i idx j : Nat} {fs : List Value} {v : Value} {M' : zM} {ty : FieldType} {ty0 : Nat → FieldType} (F : zF w g own cc nL D) (hi : i < 154) (he : zc w M i = .inr (ci, fs)) (hc : vwCl[ci]? = some (C, T, N)) (hin : ∀ c ∈ u_ws C T N, c ∈ zTb) (hty : ∀ k, k < N → parseFieldDescriptor (T k).2.2.1 = some (ty0 k)) (hnm : ∀ a, a < N → ∀ b, b < N → a ≠ b → (T a).2.1 ≠ (T b).2.1) (hj : j < N) (hdec : (T j).1 = C) (hfin : (T j).2.2.2 = false) (hl : Cond.fieldLink own idx C (T j).2.1 (T j).2.2.1 ∈ zTb) (hd2 : ty0 j = ty) (hn : narrow ty v = v) (hfit : fits ty v = true) (hlen : j < fs.length) (hs : zc w M' i = .inr (ci, fs.set j v)) (ho : ∀ q, q < 154 → q ≠ i → zc w M' q = zc w M q) (hd : decode cc pc = .ok (.putfield idx, 3)) (k : ZW w g nL (pc + 3) lv (st) M') : ZW w g nL (pc) lv (v :: .ref (w.2.2 i) :: st) M := fun H locs ls hl1 hP hS =>
  va_put F.1 F.2.1 F.2.2.2.2.1 hin ty0 hty hnm F.2.2.2.1 F.2.2.2.2.2.2.1 hP.P (zP.D F.2.2.2.2.2.2.2.1 F.2.2.2.2.2.2.2.2.1) hS i (by rw [zL0_at hi, he]) hc j hj (F.2.2.2.2.1 _ hl) (fun _ h => by rw [hdec] at h; exact h) hfin (hd2 ▸ hty j hj) hn hfit hlen hd (fun H1 locs1 hP1 _ hS1 => k H1 locs1 ls hl1 (zP.put hi hP1 hs ho) hS1)
end ZR
