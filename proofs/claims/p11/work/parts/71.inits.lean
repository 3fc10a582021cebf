theorem bi_X0 : Cond.instantiable RX0 5 ∈ zTb := zTb_in (List.mem_of_getElem? (i := 237) (by decide +kernel)) (by decide +kernel)
theorem bj_X0 : Cond.initialized RX0 ∈ zTb := zTb_in (List.mem_of_getElem? (i := 42) (by decide +kernel)) (by decide +kernel)
theorem bd_X0 : ∀ j, j < 5 → defaultValue (tyX0 j) = vp_V [.null, .null, .null, .null, .int 0] j := by decide +kernel
theorem zm_X0_init : zMe yX0_init cX0_init 2 none 0 := ⟨by decide +kernel, zTb_in (List.mem_of_getElem? (i := 240) (by decide +kernel)) (by decide +kernel), zTb_in (List.mem_of_getElem? (i := 42) (by decide +kernel)) (by decide +kernel), by decide +kernel, by decide⟩
theorem bm_X0 : Cond.instanceMethod yX0_init ∈ zTb := zTb_in (List.mem_of_getElem? (i := 239) (by decide +kernel)) (by decide +kernel)
theorem bi_X1 : Cond.instantiable RX1 7 ∈ zTb := zTb_in (List.mem_of_getElem? (i := 68) (by decide +kernel)) (by decide +kernel)
theorem bj_X1 : Cond.initialized RX1 ∈ zTb := zTb_in (List.mem_of_getElem? (i := 38) (by decide +kernel)) (by decide +kernel)
theorem bd_X1 : ∀ j, j < 7 → defaultValue (tyX1 j) = vp_V [.null, .int 0, .null, .null, .int 0, .int 0, .int 0] j := by decide +kernel
theorem zm_X1_init : zMe yX1_init cX1_init 2 none 0 := ⟨by decide +kernel, zTb_in (List.mem_of_getElem? (i := 71) (by decide +kernel)) (by decide +kernel), zTb_in (List.mem_of_getElem? (i := 38) (by decide +kernel)) (by decide +kernel), by decide +kernel, by decide⟩
theorem bm_X1 : Cond.instanceMethod yX1_init ∈ zTb := zTb_in (List.mem_of_getElem? (i := 70) (by decide +kernel)) (by decide +kernel)
theorem bi_X2 : Cond.instantiable RX2 4 ∈ zTb := zTb_in (List.mem_of_getElem? (i := 268) (by decide +kernel)) (by decide +kernel)
theorem bj_X2 : Cond.initialized RX2 ∈ zTb := zTb_in (List.mem_of_getElem? (i := 43) (by decide +kernel)) (by decide +kernel)
theorem bd_X2 : ∀ j, j < 4 → defaultValue (tyX2 j) = vp_V [.int 0, .int 0, .int 0, .null] j := by decide +kernel
theorem zm_X2_init : zMe yX2_init cX2_init 1 none 0 := ⟨by decide +kernel, zTb_in (List.mem_of_getElem? (i := 271) (by decide +kernel)) (by decide +kernel), zTb_in (List.mem_of_getElem? (i := 43) (by decide +kernel)) (by decide +kernel), by decide +kernel, by decide⟩
theorem bm_X2 : Cond.instanceMethod yX2_init ∈ zTb := zTb_in (List.mem_of_getElem? (i := 270) (by decide +kernel)) (by decide +kernel)
theorem bi_X3 : Cond.instantiable RX3 5 ∈ zTb := zTb_in (List.mem_of_getElem? (i := 205) (by decide +kernel)) (by decide +kernel)
theorem bj_X3 : Cond.initialized RX3 ∈ zTb := zTb_in (List.mem_of_getElem? (i := 41) (by decide +kernel)) (by decide +kernel)
theorem bd_X3 : ∀ j, j < 5 → defaultValue (tyX3 j) = vp_V [.null, .int 0, .int 0, .null, .null] j := by decide +kernel
theorem zm_X3_init : zMe yX3_init cX3_init 1 none 0 := ⟨by decide +kernel, zTb_in (List.mem_of_getElem? (i := 208) (by decide +kernel)) (by decide +kernel), zTb_in (List.mem_of_getElem? (i := 41) (by decide +kernel)) (by decide +kernel), by decide +kernel, by decide⟩
theorem bm_X3 : Cond.instanceMethod yX3_init ∈ zTb := zTb_in (List.mem_of_getElem? (i := 207) (by decide +kernel)) (by decide +kernel)
theorem bi_X4 : Cond.instantiable RX4 4 ∈ zTb := zTb_in (List.mem_of_getElem? (i := 75) (by decide +kernel)) (by decide +kernel)
theorem bj_X4 : Cond.initialized RX4 ∈ zTb := zTb_in (List.mem_of_getElem? (i := 39) (by decide +kernel)) (by decide +kernel)
theorem bd_X4 : ∀ j, j < 4 → defaultValue (tyX4 j) = vp_V [.int 0, .int 0, .int 0, .int 0] j := by decide +kernel
theorem zm_X4_init : zMe yX4_init cX4_init 1 none 0 := ⟨by decide +kernel, zTb_in (List.mem_of_getElem? (i := 78) (by decide +kernel)) (by decide +kernel), zTb_in (List.mem_of_getElem? (i := 39) (by decide +kernel)) (by decide +kernel), by decide +kernel, by decide⟩
theorem bm_X4 : Cond.instanceMethod yX4_init ∈ zTb := zTb_in (List.mem_of_getElem? (i := 77) (by decide +kernel)) (by decide +kernel)
theorem bi_X5 : Cond.instantiable RX5 7 ∈ zTb := zTb_in (List.mem_of_getElem? (i := 137) (by decide +kernel)) (by decide +kernel)
theorem bj_X5 : Cond.initialized RX5 ∈ zTb := zTb_in (List.mem_of_getElem? (i := 40) (by decide +kernel)) (by decide +kernel)
theorem bd_X5 : ∀ j, j < 7 → defaultValue (tyX5 j) = vp_V [.int 0, .int 0, .int 0, .int 0, .int 0, .int 0, .null] j := by decide +kernel
theorem zm_X5_init : zMe yX5_init cX5_init 1 none 0 := ⟨by decide +kernel, zTb_in (List.mem_of_getElem? (i := 140) (by decide +kernel)) (by decide +kernel), zTb_in (List.mem_of_getElem? (i := 40) (by decide +kernel)) (by decide +kernel), by decide +kernel, by decide⟩
theorem bm_X5 : Cond.instanceMethod yX5_init ∈ zTb := zTb_in (List.mem_of_getElem? (i := 139) (by decide +kernel)) (by decide +kernel)
theorem bi_X6 : Cond.instantiable RX6 4 ∈ zTb := zTb_in (List.mem_of_getElem? (i := 62) (by decide +kernel)) (by decide +kernel)
theorem bj_X6 : Cond.initialized RX6 ∈ zTb := zTb_in (List.mem_of_getElem? (i := 37) (by decide +kernel)) (by decide +kernel)
theorem bd_X6 : ∀ j, j < 4 → defaultValue (tyX6 j) = vp_V [.null, .null, .null, .int 0] j := by decide +kernel
theorem zm_X6_init : zMe yX6_init cX6_init 2 none 0 := ⟨by decide +kernel, zTb_in (List.mem_of_getElem? (i := 65) (by decide +kernel)) (by decide +kernel), zTb_in (List.mem_of_getElem? (i := 37) (by decide +kernel)) (by decide +kernel), by decide +kernel, by decide⟩
theorem bm_X6 : Cond.instanceMethod yX6_init ∈ zTb := zTb_in (List.mem_of_getElem? (i := 64) (by decide +kernel)) (by decide +kernel)
theorem bi_X7 : Cond.instantiable RX7 6 ∈ zTb := zTb_in (List.mem_of_getElem? (i := 54) (by decide +kernel)) (by decide +kernel)
theorem bj_X7 : Cond.initialized RX7 ∈ zTb := zTb_in (List.mem_of_getElem? (i := 36) (by decide +kernel)) (by decide +kernel)
theorem bd_X7 : ∀ j, j < 6 → defaultValue (tyX7 j) = vp_V [.null, .null, .int 0, .null, .null, .null] j := by decide +kernel
theorem zm_X7_init : zMe yX7_init cX7_init 2 none 0 := ⟨by decide +kernel, zTb_in (List.mem_of_getElem? (i := 57) (by decide +kernel)) (by decide +kernel), zTb_in (List.mem_of_getElem? (i := 36) (by decide +kernel)) (by decide +kernel), by decide +kernel, by decide⟩
theorem bm_X7 : Cond.instanceMethod yX7_init ∈ zTb := zTb_in (List.mem_of_getElem? (i := 56) (by decide +kernel)) (by decide +kernel)
theorem bi_X8 : Cond.instantiable RX8 30 ∈ zTb := zTb_in (List.mem_of_getElem? (i := 778) (by decide +kernel)) (by decide +kernel)
theorem bj_X8 : Cond.initialized RX8 ∈ zTb := zTb_in (List.mem_of_getElem? (i := 44) (by decide +kernel)) (by decide +kernel)
theorem bd_X8 : ∀ j, j < 30 → defaultValue (tyX8 j) = vp_V [.int 0, .int 0, .null, .null, .null, .int 0, .int 0, .int 0, .int 0, .null, .int 0, .int 0, .int 0, .int 0, .int 0, .int 0, .null, .null, .int 0, .null, .int 0, .null, .null, .null, .null, .int 0, .null, .null, .null, .null] j := by decide +kernel
theorem zm_X8_init : zMe yX8_init cX8_init 2 none 0 := ⟨by decide +kernel, zTb_in (List.mem_of_getElem? (i := 781) (by decide +kernel)) (by decide +kernel), zTb_in (List.mem_of_getElem? (i := 44) (by decide +kernel)) (by decide +kernel), by decide +kernel, by decide⟩
theorem bm_X8 : Cond.instanceMethod yX8_init ∈ zTb := zTb_in (List.mem_of_getElem? (i := 780) (by decide +kernel)) (by decide +kernel)
theorem bl_L_9 : Cond.methodLink RL 9 yX7_init ∈ zTb := zTb_in (List.mem_of_getElem? (i := 55) (by decide +kernel)) (by decide +kernel)
theorem bo_X7 : Cond.methodLink RX7 1 Lib.objectInit ∈ zTb := zTb_in (List.mem_of_getElem? (i := 58) (by decide +kernel)) (by decide +kernel)
theorem bl_X7_9 : Cond.methodLink RX7 9 yX6_init ∈ zTb := zTb_in (List.mem_of_getElem? (i := 63) (by decide +kernel)) (by decide +kernel)
theorem bo_X6 : Cond.methodLink RX6 3 Lib.objectInit ∈ zTb := zTb_in (List.mem_of_getElem? (i := 66) (by decide +kernel)) (by decide +kernel)
theorem bl_X6_11 : Cond.methodLink RX6 11 yX1_init ∈ zTb := zTb_in (List.mem_of_getElem? (i := 69) (by decide +kernel)) (by decide +kernel)
theorem bo_X1 : Cond.methodLink RX1 3 Lib.objectInit ∈ zTb := zTb_in (List.mem_of_getElem? (i := 72) (by decide +kernel)) (by decide +kernel)
theorem bo_X4 : Cond.methodLink RX4 3 Lib.objectInit ∈ zTb := zTb_in (List.mem_of_getElem? (i := 79) (by decide +kernel)) (by decide +kernel)
theorem bo_X5 : Cond.methodLink RX5 3 Lib.objectInit ∈ zTb := zTb_in (List.mem_of_getElem? (i := 141) (by decide +kernel)) (by decide +kernel)
theorem bo_X3 : Cond.methodLink RX3 3 Lib.objectInit ∈ zTb := zTb_in (List.mem_of_getElem? (i := 209) (by decide +kernel)) (by decide +kernel)
theorem bl_X3_17 : Cond.methodLink RX3 17 yX1_init ∈ zTb := zTb_in (List.mem_of_getElem? (i := 211) (by decide +kernel)) (by decide +kernel)
theorem bl_X7_28 : Cond.methodLink RX7 28 yX0_init ∈ zTb := zTb_in (List.mem_of_getElem? (i := 238) (by decide +kernel)) (by decide +kernel)
theorem bo_X0 : Cond.methodLink RX0 3 Lib.objectInit ∈ zTb := zTb_in (List.mem_of_getElem? (i := 241) (by decide +kernel)) (by decide +kernel)
theorem bl_X0_11 : Cond.methodLink RX0 11 yX1_init ∈ zTb := zTb_in (List.mem_of_getElem? (i := 243) (by decide +kernel)) (by decide +kernel)
theorem bo_X2 : Cond.methodLink RX2 3 Lib.objectInit ∈ zTb := zTb_in (List.mem_of_getElem? (i := 272) (by decide +kernel)) (by decide +kernel)
theorem bl_L_12 : Cond.methodLink RL 12 yX8_init ∈ zTb := zTb_in (List.mem_of_getElem? (i := 779) (by decide +kernel)) (by decide +kernel)
theorem bo_X8 : Cond.methodLink RX8 1 Lib.objectInit ∈ zTb := zTb_in (List.mem_of_getElem? (i := 782) (by decide +kernel)) (by decide +kernel)
theorem bo_1 : Cond.instanceMethod Lib.objectInit ∈ zTb := zTb_in (List.mem_of_getElem? (i := 59) (by decide +kernel)) (by decide +kernel)
theorem bo_2 : Cond.code Lib.objectInit ⟨#[0xb1]⟩ 1 none ∈ zTb := zTb_in (List.mem_of_getElem? (i := 60) (by decide +kernel)) (by decide +kernel)
theorem bc_L_7 : Cond.classLink RL 7 RX7 ∈ zTb := zTb_in (List.mem_of_getElem? (i := 53) (by decide +kernel)) (by decide +kernel)
theorem bc_X7_7 : Cond.classLink RX7 7 RX6 ∈ zTb := zTb_in (List.mem_of_getElem? (i := 61) (by decide +kernel)) (by decide +kernel)
theorem bc_X6_9 : Cond.classLink RX6 9 RX1 ∈ zTb := zTb_in (List.mem_of_getElem? (i := 67) (by decide +kernel)) (by decide +kernel)
theorem bc_X1_9 : Cond.classLink RX1 9 RX4 ∈ zTb := zTb_in (List.mem_of_getElem? (i := 73) (by decide +kernel)) (by decide +kernel)
theorem ba_int : Cond.arrayClass .int ∈ zTb := zTb_in (List.mem_of_getElem? (i := 101) (by decide +kernel)) (by decide +kernel)
theorem bc_X6_18 : Cond.classLink RX6 18 RX5 ∈ zTb := zTb_in (List.mem_of_getElem? (i := 136) (by decide +kernel)) (by decide +kernel)
theorem bc_X7_19 : Cond.classLink RX7 19 RX3 ∈ zTb := zTb_in (List.mem_of_getElem? (i := 204) (by decide +kernel)) (by decide +kernel)
theorem bc_X3_15 : Cond.classLink RX3 15 RX1 ∈ zTb := zTb_in (List.mem_of_getElem? (i := 210) (by decide +kernel)) (by decide +kernel)
theorem bc_X3_22 : Cond.classLink RX3 22 RX5 ∈ zTb := zTb_in (List.mem_of_getElem? (i := 212) (by decide +kernel)) (by decide +kernel)
theorem ba_char : Cond.arrayClass .char ∈ zTb := zTb_in (List.mem_of_getElem? (i := 235) (by decide +kernel)) (by decide +kernel)
theorem bc_X7_26 : Cond.classLink RX7 26 RX0 ∈ zTb := zTb_in (List.mem_of_getElem? (i := 236) (by decide +kernel)) (by decide +kernel)
theorem bc_X0_9 : Cond.classLink RX0 9 RX1 ∈ zTb := zTb_in (List.mem_of_getElem? (i := 242) (by decide +kernel)) (by decide +kernel)
theorem bc_X0_18 : Cond.classLink RX0 18 RX5 ∈ zTb := zTb_in (List.mem_of_getElem? (i := 244) (by decide +kernel)) (by decide +kernel)
theorem bc_X7_33 : Cond.classLink RX7 33 RX2 ∈ zTb := zTb_in (List.mem_of_getElem? (i := 266) (by decide +kernel)) (by decide +kernel)
theorem ba_long : Cond.arrayClass .long ∈ zTb := zTb_in (List.mem_of_getElem? (i := 290) (by decide +kernel)) (by decide +kernel)
theorem bc_L_10 : Cond.classLink RL 10 RX8 ∈ zTb := zTb_in (List.mem_of_getElem? (i := 777) (by decide +kernel)) (by decide +kernel)
/-- a loop that fills a row of references with new objects: k are in -/
def loS (b : Nat → va_E) (a : Nat) (cA : ClassId) (N sz m st : Nat) (ch : Nat → va_E) (k : Nat) : Nat → va_E := fun j => if j = a then .inl (cA, N, .inr (.inr (.inr (.inr (fun q => if q < k then some (sz + (m + st * q)) else none))))) else if m ≤ j ∧ j < m + st * k then ch j else b j
theorem loS_a {b : Nat → va_E} {a : Nat} {cA : ClassId} {N sz m st : Nat} {ch : Nat → va_E} {k : Nat} : loS b a cA N sz m st ch k a = .inl (cA, N, .inr (.inr (.inr (.inr (fun q => if q < k then some (sz + (m + st * q)) else none))))) := if_pos rfl
theorem loS_lo {b : Nat → va_E} {a : Nat} {cA : ClassId} {N sz m st : Nat} {ch : Nat → va_E} {k j : Nat} (h : j ≠ a) (h2 : j < m) : loS b a cA N sz m st ch k j = b j := by
  unfold loS
  rw [if_neg h, if_neg (by omega)]
theorem loS_0 {b : Nat → va_E} {a : Nat} {cA : ClassId} {N sz m st : Nat} {ch : Nat → va_E} (h : b a = .inl (cA, N, .inr (.inr (.inr (.inr (fun _ => none)))))) : ∀ j, b j = loS b a cA N sz m st ch 0 j := by
  intro j
  unfold loS
  by_cases e : j = a
  · subst e
    rw [if_pos rfl, h]
    simp
  · rw [if_neg e, if_neg (by omega)]
theorem loR_s {sz m st k : Nat} : va_up (fun q => if q < k then some (sz + (m + st * q)) else none) k (some (sz + (m + st * k))) = (fun q => if q < k + 1 then some (sz + (m + st * q)) else none) := by
  funext q
  unfold va_up
  by_cases e : q = k
  · subst e
    rw [if_pos rfl, if_pos (by omega)]
  · rw [if_neg e]
    dsimp only
    by_cases h : q < k
    · rw [if_pos h, if_pos (by omega)]
    · rw [if_neg h, if_neg (by omega)]
/-- a step of it: the child's cells stand in h -/
theorem loS_s {b h : Nat → va_E} {a : Nat} {cA : ClassId} {N sz m st : Nat} {ch : Nat → va_E} {k : Nat} (ha : a < m) (h1 : ∀ j, j < m + st * k → h j = loS b a cA N sz m st ch k j) (h2 : ∀ j, m + st * k ≤ j → j < m + st * (k + 1) → h j = ch j) : ∀ j, j < m + st * (k + 1) → va_up h a (.inl (cA, N, .inr (.inr (.inr (.inr (va_up (fun q => if q < k then some (sz + (m + st * q)) else none) k (some (sz + (m + st * k))))))))) j = loS b a cA N sz m st ch (k + 1) j := by
  intro j hj
  rw [loR_s]
  have hm : st * k ≤ st * (k + 1) := Nat.mul_le_mul_left _ (by omega)
  by_cases e : j = a
  · subst e
    rw [va_up_self, loS_a]
  · rw [va_up_ne _ _ e]
    unfold loS
    rw [if_neg e]
    rcases Nat.lt_or_ge j (m + st * k) with q | q
    · rw [h1 j q]
      unfold loS
      rw [if_neg e]
      by_cases z : m ≤ j
      · rw [if_pos ⟨z, q⟩, if_pos ⟨z, hj⟩]
      · rw [if_neg (fun y => z y.1), if_neg (fun y => z y.1)]
    · rw [h2 j q hj, if_pos ⟨by omega, hj⟩]
def tX4 (w : zE) (sz i : Nat) (f : Nat → va_E) : Nat → va_E := f
theorem tX4_lo {w : zE} {sz i j : Nat} {f : Nat → va_E} (h : j < i) : tX4 w sz i f j = f j := by
  rfl
theorem tX4_at {w : zE} {sz i : Nat} {f : Nat → va_E} (h0 : f i = .inr (4, [.int 0, .int 0, .int 0, .int 0])) : tX4 w sz i f i = .inr (4, [.int 0, .int 0, .int 0, .int 0]) := by
  exact h0
set_option maxHeartbeats 4000000 in
theorem c_X4_init (l : Launch) (w : zE) (sz i : Nat) (f : Nat → va_E) (h0 : f i = .inr (4, [.int 0, .int 0, .int 0, .int 0])) : bC l w sz yX4_init cX4_init 1 1 [.ref (sz + i)] (i + 1) f 0 0 (tX4 w sz i f) := by
  refine bC_of zm_X4_init rfl [some (.ref (sz + i))] rfl (by decide) (fun g hg hR hI F X => ?_)
  subst hg
  refine b_aload F dX4_init_0 rfl ?_
  refine b_obj F bo_X4 bo_1 bo_2 dX4_init_1 (by decide) ?_
  exact b_vret F X dX4_init_4 (fun _ _ => rfl)
def tX5 (w : zE) (sz i : Nat) (f : Nat → va_E) : Nat → va_E := (va_up (va_up (va_up (va_up f i (.inr (5, [.int (-4), .int 0, .int 0, .int 0, .int 0, .int 0, .null]))) i (.inr (5, [.int (-4), .int 0, .int 0, .int 0, .int 0, .int (-4), .null]))) (i + 1) (.inl (w.2.1 1, 9, .inl (fun _ => 0)))) i (.inr (5, [.int (-4), .int 0, .int 0, .int 0, .int 0, .int (-4), .ref (sz + (i + 1))])))
theorem tX5_lo {w : zE} {sz i j : Nat} {f : Nat → va_E} (h : j < i) : tX5 w sz i f j = f j := by
  unfold tX5
  rw [va_up_ne _ _ (show j ≠ i by omega)]
  rw [va_up_ne _ _ (show j ≠ (i + 1) by omega)]
  rw [va_up_ne _ _ (show j ≠ i by omega)]
  rw [va_up_ne _ _ (show j ≠ i by omega)]
theorem tX5_at {w : zE} {sz i : Nat} {f : Nat → va_E} (h0 : f i = .inr (5, [.int 0, .int 0, .int 0, .int 0, .int 0, .int 0, .null])) : tX5 w sz i f i = .inr (5, [.int (-4), .int 0, .int 0, .int 0, .int 0, .int (-4), .ref (sz + (i + 1))]) := by
  exact (va_up_self _ _ _)
theorem tX5_1 {w : zE} {sz i : Nat} {f : Nat → va_E} : tX5 w sz i f (i + 1) = .inl (w.2.1 1, 9, .inl (fun _ => 0)) := by
  unfold tX5
  rw [va_up_ne _ _ (show i + 1 ≠ i by omega), va_up_self]
set_option maxHeartbeats 4000000 in
theorem c_X5_init (l : Launch) (w : zE) (sz i : Nat) (f : Nat → va_E) (h0 : f i = .inr (5, [.int 0, .int 0, .int 0, .int 0, .int 0, .int 0, .null])) : bC l w sz yX5_init cX5_init 1 1 [.ref (sz + i)] (i + 1) f 1 9 (tX5 w sz i f) := by
  refine bC_of zm_X5_init rfl [some (.ref (sz + i))] rfl (by decide) (fun g hg hR hI F X => ?_)
  subst hg
  refine b_aload F dX5_init_0 rfl ?_
  refine b_obj F bo_X5 bo_1 bo_2 dX5_init_1 (by decide) ?_
  refine b_aload F dX5_init_4 rfl ?_
  refine b_bipush (v := -4) F dX5_init_5 (by decide) ?_
  refine b_put (j := 0) F (by omega) (h0) rfl izX5 tyX5_ok nmX5 (by decide) rfl rfl fl_X5_9 rfl rfl rfl (Nat.le_of_ble_eq_true rfl) dX5_init_7 ?_
  refine b_aload F dX5_init_10 rfl ?_
  refine b_bipush (v := -4) F dX5_init_11 (by decide) ?_
  refine b_put (j := 5) F (by omega) ((va_up_self _ _ _)) rfl izX5 tyX5_ok nmX5 (by decide) rfl rfl fl_X5_15 rfl rfl rfl (Nat.le_of_ble_eq_true rfl) dX5_init_13 ?_
  refine b_aload F dX5_init_16 rfl ?_
  refine b_bipush (v := 9) F dX5_init_17 (by decide) ?_
  refine b_newa (N' := 9) (atype := .int) (ty := .int) (a0 := (9, .inl (fun _ => 0))) (t0 := 1) (j := (i + 1)) F ba_int rfl id (fun _ h => h) rfl (fun _ => rfl) (by decide) (by decide) (by decide) (by rw [hR]; show 0 + 1 ≤ 1; decide) (by rw [hR]; show 0 + 9 ≤ 9; decide) (by omega) dX5_init_19 ?_
  refine b_putF (j := 6) F hI (by omega) (((va_up_ne _ _ (show i ≠ (i + 1) by omega)).trans (va_up_self _ _ _))) rfl izX5 tyX5_ok nmX5 (by decide) rfl rfl fl_X5_18 rfl rfl rfl (Nat.le_of_ble_eq_true rfl) dX5_init_21 ?_
  exact b_vret F X dX5_init_24 (fun _ _ => rfl)
def tX2 (w : zE) (sz i : Nat) (f : Nat → va_E) : Nat → va_E := (va_up (va_up f (i + 1) (.inl (w.2.1 2, 16, .inr (.inl (fun _ => 0))))) i (.inr (2, [.int 0, .int 0, .int 0, .ref (sz + (i + 1))])))
theorem tX2_lo {w : zE} {sz i j : Nat} {f : Nat → va_E} (h : j < i) : tX2 w sz i f j = f j := by
  unfold tX2
  rw [va_up_ne _ _ (show j ≠ i by omega)]
  rw [va_up_ne _ _ (show j ≠ (i + 1) by omega)]
theorem tX2_at {w : zE} {sz i : Nat} {f : Nat → va_E} (h0 : f i = .inr (2, [.int 0, .int 0, .int 0, .null])) : tX2 w sz i f i = .inr (2, [.int 0, .int 0, .int 0, .ref (sz + (i + 1))]) := by
  exact (va_up_self _ _ _)
theorem tX2_1 {w : zE} {sz i : Nat} {f : Nat → va_E} : tX2 w sz i f (i + 1) = .inl (w.2.1 2, 16, .inr (.inl (fun _ => 0))) := by
  unfold tX2
  rw [va_up_ne _ _ (show i + 1 ≠ i by omega), va_up_self]
set_option maxHeartbeats 4000000 in
theorem c_X2_init (l : Launch) (w : zE) (sz i : Nat) (f : Nat → va_E) (h0 : f i = .inr (2, [.int 0, .int 0, .int 0, .null])) : bC l w sz yX2_init cX2_init 1 1 [.ref (sz + i)] (i + 1) f 1 16 (tX2 w sz i f) := by
  refine bC_of zm_X2_init rfl [some (.ref (sz + i))] rfl (by decide) (fun g hg hR hI F X => ?_)
  subst hg
  refine b_aload F dX2_init_0 rfl ?_
  refine b_obj F bo_X2 bo_1 bo_2 dX2_init_1 (by decide) ?_
  refine b_aload F dX2_init_4 rfl ?_
  refine b_bipush (v := 16) F dX2_init_5 (by decide) ?_
  refine b_newa (N' := 16) (atype := .long) (ty := .long) (a0 := (16, .inr (.inl (fun _ => 0)))) (t0 := 2) (j := (i + 1)) F ba_long rfl id (fun _ h => h) rfl (fun _ => rfl) (by decide) (by decide) (by decide) (by rw [hR]; show 0 + 1 ≤ 1; decide) (by rw [hR]; show 0 + 16 ≤ 16; decide) (by omega) dX2_init_7 ?_
  refine b_putF (j := 3) F hI (by omega) (((va_up_ne _ _ (show i ≠ (i + 1) by omega)).trans h0)) rfl izX2 tyX2_ok nmX2 (by decide) rfl rfl fl_X2_9 rfl rfl rfl (Nat.le_of_ble_eq_true rfl) dX2_init_9 ?_
  exact b_vret F X dX2_init_12 (fun _ _ => rfl)
def hX1 (w : zE) (sz i : Nat) : Nat → va_E := (fun _ => .inr (4, [.int 0, .int 0, .int 0, .int 0]))
def tX1 (w : zE) (sz i : Nat) (f : Nat → va_E) : Nat → va_E := (loS (va_up (va_up (va_up (va_up (va_up (va_up (va_up (va_up f (i + 1) (.inl (w.2.1 4, 10, .inr (.inr (.inr (.inr (fun _ => none))))))) i (.inr (1, [.ref (sz + (i + 1)), .int 0, .null, .null, .int 0, .int 0, .int 0]))) (i + 2) (.inl (w.2.1 1, 9, .inl (fun _ => 0)))) i (.inr (1, [.ref (sz + (i + 1)), .int 0, .ref (sz + (i + 2)), .null, .int 0, .int 0, .int 0]))) (i + 3) (.inl (w.2.1 1, 9, .inl (fun _ => 0)))) i (.inr (1, [.ref (sz + (i + 1)), .int 0, .ref (sz + (i + 2)), .ref (sz + (i + 3)), .int 0, .int 0, .int 0]))) i (.inr (1, [.ref (sz + (i + 1)), .int 0, .ref (sz + (i + 2)), .ref (sz + (i + 3)), .int 0, .int (99), .int 0]))) i (.inr (1, [.ref (sz + (i + 1)), .int 0, .ref (sz + (i + 2)), .ref (sz + (i + 3)), .int 0, .int (99), .int (-4)]))) (i + 1) (w.2.1 4) 10 sz (i + 4) 1 (hX1 w sz i) 10)
set_option maxHeartbeats 4000000 in
theorem lo_X1 {w : zE} {sz i : Nat} {g : zG} {b : Nat → va_E} (F : bF w sz (i + 1) g RX1 cX1_init 2 2) (hR : g.1.2.2.2 = bR 2 13 68) (hb : b i = .inr (1, [.ref (sz + (i + 1)), .int 0, .ref (sz + (i + 2)), .ref (sz + (i + 3)), .int 0, .int (99), .int (-4)])) (K : BW w sz (i + 1) g 2 71 [some (.ref (sz + i)), some (.int (nI 10))] [] (loS b (i + 1) (w.2.1 4) 10 sz (i + 4) 1 (hX1 w sz i) 10) 13 68) : ∀ (r k : Nat), k + r = 10 → BW w sz (i + 1) g 2 43 [some (.ref (sz + i)), some (.int (nI k))] [] (loS b (i + 1) (w.2.1 4) 10 sz (i + 4) 1 (hX1 w sz i) k) (3 + 1 * k) (28 + 4 * k) := by
  intro r
  induction r with
  | zero =>
    intro k hk
    have hi : (loS b (i + 1) (w.2.1 4) 10 sz (i + 4) 1 (hX1 w sz i) k) i = _ := (loS_lo (show i ≠ (i + 1) by omega) (show i < (i + 4) by omega)).trans hb
    obtain rfl : k = 10 := by omega
    refine b_iload F dX1_init_43 rfl ?_
    refine b_aload F dX1_init_44 rfl ?_
    refine b_get (j := 0) F (by omega) hi rfl izX1 (by decide) rfl fl_X1_11 rfl dX1_init_45 ?_
    refine b_alen (t0 := 4) (v := nI 10) F (by omega) loS_a rfl rfl dX1_init_48 ?_
    exact b_ge (tgt := 71) F dX1_init_49 (by decide) (fun _ => K) (fun h => absurd h (by decide))
  | succ r ih =>
    intro k hk
    have hk2 : k < 10 := by omega
    have hi : (loS b (i + 1) (w.2.1 4) 10 sz (i + 4) 1 (hX1 w sz i) k) i = _ := (loS_lo (show i ≠ (i + 1) by omega) (show i < (i + 4) by omega)).trans hb
    refine b_iload F dX1_init_43 rfl ?_
    refine b_aload F dX1_init_44 rfl ?_
    refine b_get (j := 0) F (by omega) hi rfl izX1 (by decide) rfl fl_X1_11 rfl dX1_init_45 ?_
    refine b_alen (t0 := 4) (v := nI 10) F (by omega) loS_a rfl rfl dX1_init_48 ?_
    refine b_ge (tgt := 71) F dX1_init_49 (by decide) (fun h => absurd h (nI_ge hk2 (by decide))) (fun _ => ?_)
    refine b_aload F dX1_init_52 rfl ?_
    refine b_get (j := 0) F (by omega) hi rfl izX1 (by decide) rfl fl_X1_11 rfl dX1_init_53 ?_
    refine b_iload F dX1_init_56 rfl ?_
    refine b_new (ci := 4) (fs := [.int 0, .int 0, .int 0, .int 0]) (j := ((i + 4) + 1 * k)) F bc_X1_9 bi_X4 bj_X4 izX4 tyX4 tyX4_ok rfl bd_X4 (by rw [hR]; show 3 + 1 * k + 1 ≤ 13; omega) (by rw [hR]; show 28 + 4 * k + 4 ≤ 68; omega) (by omega) dX1_init_57 ?_
    refine b_dup F dX1_init_60 rfl ?_
    refine b_callN F (c_X4_init (g.1.2.1) w sz ((i + 4) + 1 * k) _ (va_up_self _ _ _)) (by omega) zm_X4_init bm_X4 rfl F.2.2.2.2.2.2.2.2.2.2.2.1 (Nat.le_of_ble_eq_true rfl) dX1_init_61 (by decide) (by rw [hR]; show 3 + 1 * k + 1 + 0 ≤ 13; omega) (by rw [hR]; show 28 + 4 * k + 4 + 0 ≤ 68; omega) ?_
    refine b_astq (t0 := 4) (ci := 4) F (by omega) ((tX4_lo (show (i + 1) < ((i + 4) + 1 * k) by omega)).trans ((va_up_ne _ _ (show (i + 1) ≠ ((i + 4) + 1 * k) by omega)).trans loS_a)) rfl (by omega) (tX4_at (va_up_self _ _ _)) rfl (vp_in_nI hk2 (by decide)) dX1_init_64 ?_
    rw [nI_clamp (show k < 2 ^ 31 by omega)]
    refine b_ext (f' := (loS b (i + 1) (w.2.1 4) 10 sz (i + 4) 1 (hX1 w sz i) (k + 1))) (fun j hj => loS_s (by omega) (fun j h => (tX4_lo h).trans (va_up_ne _ _ (by omega))) (fun j h1 h2 => ?_) j (by omega)) ?_
    · obtain rfl : j = ((i + 4) + 1 * k) := by omega
      exact va_up_self _ _ _
    refine b_iinc F dX1_init_65 rfl (nI_1 k) (by decide) rfl rfl ?_
    refine b_goto (tgt := 43) F dX1_init_68 (by decide) ?_
    have q := ih (k + 1) (by omega)
    rw [show 3 + 1 * (k + 1) = 3 + 1 * k + 1 + 0 by omega, show 28 + 4 * (k + 1) = 28 + 4 * k + 4 + 0 by omega] at q
    exact q
theorem tX1_lo {w : zE} {sz i j : Nat} {f : Nat → va_E} (h : j < i) : tX1 w sz i f j = f j := by
  unfold tX1
  rw [loS_lo (show j ≠ (i + 1) by omega) (show j < (i + 4) by omega)]
  rw [va_up_ne _ _ (show j ≠ i by omega)]
  rw [va_up_ne _ _ (show j ≠ i by omega)]
  rw [va_up_ne _ _ (show j ≠ i by omega)]
  rw [va_up_ne _ _ (show j ≠ (i + 3) by omega)]
  rw [va_up_ne _ _ (show j ≠ i by omega)]
  rw [va_up_ne _ _ (show j ≠ (i + 2) by omega)]
  rw [va_up_ne _ _ (show j ≠ i by omega)]
  rw [va_up_ne _ _ (show j ≠ (i + 1) by omega)]
theorem tX1_at {w : zE} {sz i : Nat} {f : Nat → va_E} (h0 : f i = .inr (1, [.null, .int 0, .null, .null, .int 0, .int 0, .int 0])) : tX1 w sz i f i = .inr (1, [.ref (sz + (i + 1)), .int 0, .ref (sz + (i + 2)), .ref (sz + (i + 3)), .int 0, .int (99), .int (-4)]) := by
  exact (loS_lo (show i ≠ (i + 1) by omega) (show i < (i + 4) by omega)).trans ((va_up_self _ _ _))
set_option maxHeartbeats 4000000 in
theorem c_X1_init (l : Launch) (w : zE) (sz i : Nat) (f : Nat → va_E) (h0 : f i = .inr (1, [.null, .int 0, .null, .null, .int 0, .int 0, .int 0])) : bC l w sz yX1_init cX1_init 2 2 [.ref (sz + i)] (i + 1) f 13 68 (tX1 w sz i f) := by
  refine bC_of zm_X1_init rfl [some (.ref (sz + i)), none] rfl (by decide) (fun g hg hR hI F X => ?_)
  subst hg
  refine b_aload F dX1_init_0 rfl ?_
  refine b_obj F bo_X1 bo_1 bo_2 dX1_init_1 (by decide) ?_
  refine b_aload F dX1_init_4 rfl ?_
  refine b_bipush (v := 10) F dX1_init_5 (by decide) ?_
  refine b_newq (N' := 10) (t0 := 4) (j := (i + 1)) F bc_X1_9 F.2.2.2.2.2.2.2.2.2.2.1.1 rfl (by decide) (by decide) (by decide) (by rw [hR]; show 0 + 1 ≤ 13; decide) (by rw [hR]; show 0 + 10 ≤ 68; decide) (by omega) dX1_init_7 ?_
  refine b_putF (j := 0) F hI (by omega) (((va_up_ne _ _ (show i ≠ (i + 1) by omega)).trans h0)) rfl izX1 tyX1_ok nmX1 (by decide) rfl rfl fl_X1_11 rfl rfl rfl (Nat.le_of_ble_eq_true rfl) dX1_init_10 ?_
  refine b_aload F dX1_init_13 rfl ?_
  refine b_bipush (v := 9) F dX1_init_14 (by decide) ?_
  refine b_newa (N' := 9) (atype := .int) (ty := .int) (a0 := (9, .inl (fun _ => 0))) (t0 := 1) (j := (i + 2)) F ba_int rfl id (fun _ h => h) rfl (fun _ => rfl) (by decide) (by decide) (by decide) (by rw [hR]; show 1 + 1 ≤ 13; decide) (by rw [hR]; show 10 + 9 ≤ 68; decide) (by omega) dX1_init_16 ?_
  refine b_putF (j := 2) F hI (by omega) (((va_up_ne _ _ (show i ≠ (i + 2) by omega)).trans (va_up_self _ _ _))) rfl izX1 tyX1_ok nmX1 (by decide) rfl rfl fl_X1_17 rfl rfl rfl (Nat.le_of_ble_eq_true rfl) dX1_init_18 ?_
  refine b_aload F dX1_init_21 rfl ?_
  refine b_bipush (v := 9) F dX1_init_22 (by decide) ?_
  refine b_newa (N' := 9) (atype := .int) (ty := .int) (a0 := (9, .inl (fun _ => 0))) (t0 := 1) (j := (i + 3)) F ba_int rfl id (fun _ h => h) rfl (fun _ => rfl) (by decide) (by decide) (by decide) (by rw [hR]; show 2 + 1 ≤ 13; decide) (by rw [hR]; show 19 + 9 ≤ 68; decide) (by omega) dX1_init_24 ?_
  refine b_putF (j := 3) F hI (by omega) (((va_up_ne _ _ (show i ≠ (i + 3) by omega)).trans (va_up_self _ _ _))) rfl izX1 tyX1_ok nmX1 (by decide) rfl rfl fl_X1_21 rfl rfl rfl (Nat.le_of_ble_eq_true rfl) dX1_init_26 ?_
  refine b_aload F dX1_init_29 rfl ?_
  refine b_bipush (v := 99) F dX1_init_30 (by decide) ?_
  refine b_put (j := 5) F (by omega) ((va_up_self _ _ _)) rfl izX1 tyX1_ok nmX1 (by decide) rfl rfl fl_X1_24 rfl rfl rfl (Nat.le_of_ble_eq_true rfl) dX1_init_32 ?_
  refine b_aload F dX1_init_35 rfl ?_
  refine b_bipush (v := -4) F dX1_init_36 (by decide) ?_
  refine b_put (j := 6) F (by omega) ((va_up_self _ _ _)) rfl izX1 tyX1_ok nmX1 (by decide) rfl rfl fl_X1_28 rfl rfl rfl (Nat.le_of_ble_eq_true rfl) dX1_init_38 ?_
  refine b_iconst (v := nI 0) F dX1_init_41 (by decide) ?_
  refine b_istore F dX1_init_42 (by decide) rfl rfl ?_
  refine b_ext (f' := (loS _ (i + 1) (w.2.1 4) 10 sz (i + 4) 1 (hX1 w sz i) 0)) (fun j _ => loS_0 (m := (i + 4)) (st := 1) (ch := hX1 w sz i) (sz := sz) (((va_up_ne _ _ (show (i + 1) ≠ i by omega)).trans ((va_up_ne _ _ (show (i + 1) ≠ i by omega)).trans ((va_up_ne _ _ (show (i + 1) ≠ i by omega)).trans ((va_up_ne _ _ (show (i + 1) ≠ (i + 3) by omega)).trans ((va_up_ne _ _ (show (i + 1) ≠ i by omega)).trans ((va_up_ne _ _ (show (i + 1) ≠ (i + 2) by omega)).trans ((va_up_ne _ _ (show (i + 1) ≠ i by omega)).trans (va_up_self _ _ _))))))))) j) ?_
  refine lo_X1 F hR ?_ ?_ 10 0 rfl
  · exact (va_up_self _ _ _)
  · exact b_vret F X dX1_init_71 (fun _ _ => rfl)
def tX3 (w : zE) (sz i : Nat) (f : Nat → va_E) : Nat → va_E := (va_up (tX5 w sz (i + 16) (va_up (va_up (tX1 w sz (i + 2) (va_up (va_up (va_up f (i + 1) (.inl (w.2.1 0, 120, .inl (fun _ => 0)))) i (.inr (3, [.ref (sz + (i + 1)), .int 0, .int 0, .null, .null]))) (i + 2) (.inr (1, [.null, .int 0, .null, .null, .int 0, .int 0, .int 0])))) i (.inr (3, [.ref (sz + (i + 1)), .int 0, .int 0, .ref (sz + (i + 2)), .null]))) (i + 16) (.inr (5, [.int 0, .int 0, .int 0, .int 0, .int 0, .int 0, .null])))) i (.inr (3, [.ref (sz + (i + 1)), .int 0, .int 0, .ref (sz + (i + 2)), .ref (sz + (i + 16))])))
theorem tX3_lo {w : zE} {sz i j : Nat} {f : Nat → va_E} (h : j < i) : tX3 w sz i f j = f j := by
  unfold tX3
  rw [va_up_ne _ _ (show j ≠ i by omega)]
  rw [tX5_lo (show j < (i + 16) by omega)]
  rw [va_up_ne _ _ (show j ≠ (i + 16) by omega)]
  rw [va_up_ne _ _ (show j ≠ i by omega)]
  rw [tX1_lo (show j < (i + 2) by omega)]
  rw [va_up_ne _ _ (show j ≠ (i + 2) by omega)]
  rw [va_up_ne _ _ (show j ≠ i by omega)]
  rw [va_up_ne _ _ (show j ≠ (i + 1) by omega)]
theorem tX3_at {w : zE} {sz i : Nat} {f : Nat → va_E} (h0 : f i = .inr (3, [.null, .int 0, .int 0, .null, .null])) : tX3 w sz i f i = .inr (3, [.ref (sz + (i + 1)), .int 0, .int 0, .ref (sz + (i + 2)), .ref (sz + (i + 16))]) := by
  exact (va_up_self _ _ _)
set_option maxHeartbeats 4000000 in
theorem c_X3_init (l : Launch) (w : zE) (sz i : Nat) (f : Nat → va_E) (h0 : f i = .inr (3, [.null, .int 0, .int 0, .null, .null])) : bC l w sz yX3_init cX3_init 1 3 [.ref (sz + i)] (i + 1) f 17 211 (tX3 w sz i f) := by
  refine bC_of zm_X3_init rfl [some (.ref (sz + i))] rfl (by decide) (fun g hg hR hI F X => ?_)
  subst hg
  refine b_aload F dX3_init_0 rfl ?_
  refine b_obj F bo_X3 bo_1 bo_2 dX3_init_1 (by decide) ?_
  refine b_aload F dX3_init_4 rfl ?_
  refine b_bipush (v := 120) F dX3_init_5 (by decide) ?_
  refine b_newa (N' := 120) (atype := .char) (ty := .char) (a0 := (120, .inl (fun _ => 0))) (t0 := 0) (j := (i + 1)) F ba_char rfl id (fun _ h => h) rfl (fun _ => rfl) (by decide) (by decide) (by decide) (by rw [hR]; show 0 + 1 ≤ 17; decide) (by rw [hR]; show 0 + 120 ≤ 211; decide) (by omega) dX3_init_7 ?_
  refine b_putF (j := 0) F hI (by omega) (((va_up_ne _ _ (show i ≠ (i + 1) by omega)).trans h0)) rfl izX3 tyX3_ok nmX3 (by decide) rfl rfl fl_X3_9 rfl rfl rfl (Nat.le_of_ble_eq_true rfl) dX3_init_9 ?_
  refine b_aload F dX3_init_12 rfl ?_
  refine b_new (ci := 1) (fs := [.null, .int 0, .null, .null, .int 0, .int 0, .int 0]) (j := (i + 2)) F bc_X3_15 bi_X1 bj_X1 izX1 tyX1 tyX1_ok rfl bd_X1 (by rw [hR]; show 1 + 1 ≤ 17; decide) (by rw [hR]; show 120 + 7 ≤ 211; decide) (by omega) dX3_init_13 ?_
  refine b_dup F dX3_init_16 rfl ?_
  refine b_callI F (c_X1_init (g.1.2.1) w sz (i + 2) _ ((va_up_self _ _ _))) (by omega) zm_X1_init bm_X1 rfl bl_X3_17 (Nat.le_of_ble_eq_true rfl) dX3_init_17 (by decide) (by rw [hR]; show 2 + 13 ≤ 17; decide) (by rw [hR]; show 127 + 68 ≤ 211; decide) ?_
  refine b_putF (j := 3) F hI (by omega) (((tX1_lo (show i < (i + 2) by omega)).trans ((va_up_ne _ _ (show i ≠ (i + 2) by omega)).trans (va_up_self _ _ _)))) rfl izX3 tyX3_ok nmX3 (by decide) rfl rfl fl_X3_18 rfl rfl rfl (Nat.le_of_ble_eq_true rfl) dX3_init_20 ?_
  refine b_aload F dX3_init_23 rfl ?_
  refine b_new (ci := 5) (fs := [.int 0, .int 0, .int 0, .int 0, .int 0, .int 0, .null]) (j := (i + 16)) F bc_X3_22 bi_X5 bj_X5 izX5 tyX5 tyX5_ok rfl bd_X5 (by rw [hR]; show 15 + 1 ≤ 17; decide) (by rw [hR]; show 195 + 7 ≤ 211; decide) (by omega) dX3_init_24 ?_
  refine b_dup F dX3_init_27 rfl ?_
  refine b_callN F (c_X5_init (g.1.2.1) w sz (i + 16) _ ((va_up_self _ _ _))) (by omega) zm_X5_init bm_X5 rfl F.2.2.2.2.2.2.2.2.2.2.2.2.2.2.1 (Nat.le_of_ble_eq_true rfl) dX3_init_28 (by decide) (by rw [hR]; show 16 + 1 ≤ 17; decide) (by rw [hR]; show 202 + 9 ≤ 211; decide) ?_
  refine b_putF (j := 4) F hI (by omega) (((tX5_lo (show i < (i + 16) by omega)).trans ((va_up_ne _ _ (show i ≠ (i + 16) by omega)).trans (va_up_self _ _ _)))) rfl izX3 tyX3_ok nmX3 (by decide) rfl rfl fl_X3_25 rfl rfl rfl (Nat.le_of_ble_eq_true rfl) dX3_init_31 ?_
  exact b_vret F X dX3_init_34 (fun _ _ => rfl)
def hX6 (w : zE) (sz i : Nat) : Nat → va_E := (fun j => if (j - (i + 18)) % 2 = 0 then .inr (5, [.int (-4), .int 0, .int 0, .int 0, .int 0, .int (-4), .ref (sz + (j + 1))]) else .inl (w.2.1 1, 9, .inl (fun _ => 0)))
def tX6 (w : zE) (sz i : Nat) (f : Nat → va_E) : Nat → va_E := (loS (va_up (va_up (va_up (tX5 w sz (i + 15) (va_up (va_up (tX1 w sz (i + 1) (va_up f (i + 1) (.inr (1, [.null, .int 0, .null, .null, .int 0, .int 0, .int 0])))) i (.inr (6, [.ref (sz + (i + 1)), .null, .null, .int 0]))) (i + 15) (.inr (5, [.int 0, .int 0, .int 0, .int 0, .int 0, .int 0, .null])))) i (.inr (6, [.ref (sz + (i + 1)), .ref (sz + (i + 15)), .null, .int 0]))) (i + 17) (.inl (w.2.1 5, 8, .inr (.inr (.inr (.inr (fun _ => none))))))) i (.inr (6, [.ref (sz + (i + 1)), .ref (sz + (i + 15)), .ref (sz + (i + 17)), .int 0]))) (i + 17) (w.2.1 5) 8 sz (i + 18) 2 (hX6 w sz i) 8)
set_option maxHeartbeats 4000000 in
theorem lo_X6 {w : zE} {sz i : Nat} {g : zG} {b : Nat → va_E} (F : bF w sz (i + 1) g RX6 cX6_init 2 3) (hR : g.1.2.2.2 = bR 3 33 227) (hb : b i = .inr (6, [.ref (sz + (i + 1)), .ref (sz + (i + 15)), .ref (sz + (i + 17)), .int 0])) (K : BW w sz (i + 1) g 2 65 [some (.ref (sz + i)), some (.int (nI 8))] [] (loS b (i + 17) (w.2.1 5) 8 sz (i + 18) 2 (hX6 w sz i) 8) 33 227) : ∀ (r k : Nat), k + r = 8 → BW w sz (i + 1) g 2 37 [some (.ref (sz + i)), some (.int (nI k))] [] (loS b (i + 17) (w.2.1 5) 8 sz (i + 18) 2 (hX6 w sz i) k) (17 + 2 * k) (99 + 16 * k) := by
  intro r
  induction r with
  | zero =>
    intro k hk
    have hi : (loS b (i + 17) (w.2.1 5) 8 sz (i + 18) 2 (hX6 w sz i) k) i = _ := (loS_lo (show i ≠ (i + 17) by omega) (show i < (i + 18) by omega)).trans hb
    obtain rfl : k = 8 := by omega
    refine b_iload F dX6_init_37 rfl ?_
    refine b_aload F dX6_init_38 rfl ?_
    refine b_get (j := 2) F (by omega) hi rfl izX6 (by decide) rfl fl_X6_25 rfl dX6_init_39 ?_
    refine b_alen (t0 := 5) (v := nI 8) F (by omega) loS_a rfl rfl dX6_init_42 ?_
    exact b_ge (tgt := 65) F dX6_init_43 (by decide) (fun _ => K) (fun h => absurd h (by decide))
  | succ r ih =>
    intro k hk
    have hk2 : k < 8 := by omega
    have hi : (loS b (i + 17) (w.2.1 5) 8 sz (i + 18) 2 (hX6 w sz i) k) i = _ := (loS_lo (show i ≠ (i + 17) by omega) (show i < (i + 18) by omega)).trans hb
    refine b_iload F dX6_init_37 rfl ?_
    refine b_aload F dX6_init_38 rfl ?_
    refine b_get (j := 2) F (by omega) hi rfl izX6 (by decide) rfl fl_X6_25 rfl dX6_init_39 ?_
    refine b_alen (t0 := 5) (v := nI 8) F (by omega) loS_a rfl rfl dX6_init_42 ?_
    refine b_ge (tgt := 65) F dX6_init_43 (by decide) (fun h => absurd h (nI_ge hk2 (by decide))) (fun _ => ?_)
    refine b_aload F dX6_init_46 rfl ?_
    refine b_get (j := 2) F (by omega) hi rfl izX6 (by decide) rfl fl_X6_25 rfl dX6_init_47 ?_
    refine b_iload F dX6_init_50 rfl ?_
    refine b_new (ci := 5) (fs := [.int 0, .int 0, .int 0, .int 0, .int 0, .int 0, .null]) (j := ((i + 18) + 2 * k)) F bc_X6_18 bi_X5 bj_X5 izX5 tyX5 tyX5_ok rfl bd_X5 (by rw [hR]; show 17 + 2 * k + 1 ≤ 33; omega) (by rw [hR]; show 99 + 16 * k + 7 ≤ 227; omega) (by omega) dX6_init_51 ?_
    refine b_dup F dX6_init_54 rfl ?_
    refine b_callN F (c_X5_init (g.1.2.1) w sz ((i + 18) + 2 * k) _ (va_up_self _ _ _)) (by omega) zm_X5_init bm_X5 rfl F.2.2.2.2.2.2.2.2.2.2.2.2.1 (Nat.le_of_ble_eq_true rfl) dX6_init_55 (by decide) (by rw [hR]; show 17 + 2 * k + 1 + 1 ≤ 33; omega) (by rw [hR]; show 99 + 16 * k + 7 + 9 ≤ 227; omega) ?_
    refine b_astq (t0 := 5) (ci := 5) F (by omega) ((tX5_lo (show (i + 17) < ((i + 18) + 2 * k) by omega)).trans ((va_up_ne _ _ (show (i + 17) ≠ ((i + 18) + 2 * k) by omega)).trans loS_a)) rfl (by omega) (tX5_at (va_up_self _ _ _)) rfl (vp_in_nI hk2 (by decide)) dX6_init_58 ?_
    rw [nI_clamp (show k < 2 ^ 31 by omega)]
    refine b_ext (f' := (loS b (i + 17) (w.2.1 5) 8 sz (i + 18) 2 (hX6 w sz i) (k + 1))) (fun j hj => loS_s (by omega) (fun j h => (tX5_lo h).trans (va_up_ne _ _ (by omega))) (fun j h1 h2 => ?_) j (by omega)) ?_
    · rcases (show j = ((i + 18) + 2 * k) ∨ j = ((i + 18) + 2 * k) + 1 by omega) with rfl | rfl
      · rw [tX5_at (va_up_self _ _ _)]; unfold hX6; rw [if_pos (by omega)]
      · rw [tX5_1]; unfold hX6; rw [if_neg (by omega)]
    refine b_iinc F dX6_init_59 rfl (nI_1 k) (by decide) rfl rfl ?_
    refine b_goto (tgt := 37) F dX6_init_62 (by decide) ?_
    have q := ih (k + 1) (by omega)
    rw [show 17 + 2 * (k + 1) = 17 + 2 * k + 1 + 1 by omega, show 99 + 16 * (k + 1) = 99 + 16 * k + 7 + 9 by omega] at q
    exact q
theorem tX6_lo {w : zE} {sz i j : Nat} {f : Nat → va_E} (h : j < i) : tX6 w sz i f j = f j := by
  unfold tX6
  rw [loS_lo (show j ≠ (i + 17) by omega) (show j < (i + 18) by omega)]
  rw [va_up_ne _ _ (show j ≠ i by omega)]
  rw [va_up_ne _ _ (show j ≠ (i + 17) by omega)]
  rw [va_up_ne _ _ (show j ≠ i by omega)]
  rw [tX5_lo (show j < (i + 15) by omega)]
  rw [va_up_ne _ _ (show j ≠ (i + 15) by omega)]
  rw [va_up_ne _ _ (show j ≠ i by omega)]
  rw [tX1_lo (show j < (i + 1) by omega)]
  rw [va_up_ne _ _ (show j ≠ (i + 1) by omega)]
theorem tX6_at {w : zE} {sz i : Nat} {f : Nat → va_E} (h0 : f i = .inr (6, [.null, .null, .null, .int 0])) : tX6 w sz i f i = .inr (6, [.ref (sz + (i + 1)), .ref (sz + (i + 15)), .ref (sz + (i + 17)), .int 0]) := by
  exact (loS_lo (show i ≠ (i + 17) by omega) (show i < (i + 18) by omega)).trans ((va_up_self _ _ _))
set_option maxHeartbeats 4000000 in
theorem c_X6_init (l : Launch) (w : zE) (sz i : Nat) (f : Nat → va_E) (h0 : f i = .inr (6, [.null, .null, .null, .int 0])) : bC l w sz yX6_init cX6_init 2 3 [.ref (sz + i)] (i + 1) f 33 227 (tX6 w sz i f) := by
  refine bC_of zm_X6_init rfl [some (.ref (sz + i)), none] rfl (by decide) (fun g hg hR hI F X => ?_)
  subst hg
  refine b_aload F dX6_init_0 rfl ?_
  refine b_obj F bo_X6 bo_1 bo_2 dX6_init_1 (by decide) ?_
  refine b_aload F dX6_init_4 rfl ?_
  refine b_new (ci := 1) (fs := [.null, .int 0, .null, .null, .int 0, .int 0, .int 0]) (j := (i + 1)) F bc_X6_9 bi_X1 bj_X1 izX1 tyX1 tyX1_ok rfl bd_X1 (by rw [hR]; show 0 + 1 ≤ 33; decide) (by rw [hR]; show 0 + 7 ≤ 227; decide) (by omega) dX6_init_5 ?_
  refine b_dup F dX6_init_8 rfl ?_
  refine b_callI F (c_X1_init (g.1.2.1) w sz (i + 1) _ ((va_up_self _ _ _))) (by omega) zm_X1_init bm_X1 rfl bl_X6_11 (Nat.le_of_ble_eq_true rfl) dX6_init_9 (by decide) (by rw [hR]; show 1 + 13 ≤ 33; decide) (by rw [hR]; show 7 + 68 ≤ 227; decide) ?_
  refine b_putF (j := 0) F hI (by omega) (((tX1_lo (show i < (i + 1) by omega)).trans ((va_up_ne _ _ (show i ≠ (i + 1) by omega)).trans h0))) rfl izX6 tyX6_ok nmX6 (by decide) rfl rfl fl_X6_12 rfl rfl rfl (Nat.le_of_ble_eq_true rfl) dX6_init_12 ?_
  refine b_aload F dX6_init_15 rfl ?_
  refine b_new (ci := 5) (fs := [.int 0, .int 0, .int 0, .int 0, .int 0, .int 0, .null]) (j := (i + 15)) F bc_X6_18 bi_X5 bj_X5 izX5 tyX5 tyX5_ok rfl bd_X5 (by rw [hR]; show 14 + 1 ≤ 33; decide) (by rw [hR]; show 75 + 7 ≤ 227; decide) (by omega) dX6_init_16 ?_
  refine b_dup F dX6_init_19 rfl ?_
  refine b_callN F (c_X5_init (g.1.2.1) w sz (i + 15) _ ((va_up_self _ _ _))) (by omega) zm_X5_init bm_X5 rfl F.2.2.2.2.2.2.2.2.2.2.2.2.1 (Nat.le_of_ble_eq_true rfl) dX6_init_20 (by decide) (by rw [hR]; show 15 + 1 ≤ 33; decide) (by rw [hR]; show 82 + 9 ≤ 227; decide) ?_
  refine b_putF (j := 1) F hI (by omega) (((tX5_lo (show i < (i + 15) by omega)).trans ((va_up_ne _ _ (show i ≠ (i + 15) by omega)).trans (va_up_self _ _ _)))) rfl izX6 tyX6_ok nmX6 (by decide) rfl rfl fl_X6_21 rfl rfl rfl (Nat.le_of_ble_eq_true rfl) dX6_init_23 ?_
  refine b_aload F dX6_init_26 rfl ?_
  refine b_bipush (v := 8) F dX6_init_27 (by decide) ?_
  refine b_newq (N' := 8) (t0 := 5) (j := (i + 17)) F bc_X6_18 F.2.2.2.2.2.2.2.2.2.2.1.2.1 rfl (by decide) (by decide) (by decide) (by rw [hR]; show 16 + 1 ≤ 33; decide) (by rw [hR]; show 91 + 8 ≤ 227; decide) (by omega) dX6_init_29 ?_
  refine b_putF (j := 2) F hI (by omega) (((va_up_ne _ _ (show i ≠ (i + 17) by omega)).trans (va_up_self _ _ _))) rfl izX6 tyX6_ok nmX6 (by decide) rfl rfl fl_X6_25 rfl rfl rfl (Nat.le_of_ble_eq_true rfl) dX6_init_32 ?_
  refine b_iconst (v := nI 0) F dX6_init_35 (by decide) ?_
  refine b_istore F dX6_init_36 (by decide) rfl rfl ?_
  refine b_ext (f' := (loS _ (i + 17) (w.2.1 5) 8 sz (i + 18) 2 (hX6 w sz i) 0)) (fun j _ => loS_0 (m := (i + 18)) (st := 2) (ch := hX6 w sz i) (sz := sz) (((va_up_ne _ _ (show (i + 17) ≠ i by omega)).trans (va_up_self _ _ _))) j) ?_
  refine lo_X6 F hR ?_ ?_ 8 0 rfl
  · exact (va_up_self _ _ _)
  · exact b_vret F X dX6_init_65 (fun _ _ => rfl)
def hX0 (w : zE) (sz i : Nat) : Nat → va_E := (fun j => if (j - (i + 20)) % 2 = 0 then .inr (5, [.int (-4), .int 0, .int 0, .int 0, .int 0, .int (-4), .ref (sz + (j + 1))]) else .inl (w.2.1 1, 9, .inl (fun _ => 0)))
def tX0 (w : zE) (sz i : Nat) (f : Nat → va_E) : Nat → va_E := (loS (va_up (va_up (va_up (tX5 w sz (i + 17) (va_up (va_up (tX5 w sz (i + 15) (va_up (va_up (tX1 w sz (i + 1) (va_up f (i + 1) (.inr (1, [.null, .int 0, .null, .null, .int 0, .int 0, .int 0])))) i (.inr (0, [.ref (sz + (i + 1)), .null, .null, .null, .int 0]))) (i + 15) (.inr (5, [.int 0, .int 0, .int 0, .int 0, .int 0, .int 0, .null])))) i (.inr (0, [.ref (sz + (i + 1)), .ref (sz + (i + 15)), .null, .null, .int 0]))) (i + 17) (.inr (5, [.int 0, .int 0, .int 0, .int 0, .int 0, .int 0, .null])))) i (.inr (0, [.ref (sz + (i + 1)), .ref (sz + (i + 15)), .ref (sz + (i + 17)), .null, .int 0]))) (i + 19) (.inl (w.2.1 5, 11, .inr (.inr (.inr (.inr (fun _ => none))))))) i (.inr (0, [.ref (sz + (i + 1)), .ref (sz + (i + 15)), .ref (sz + (i + 17)), .ref (sz + (i + 19)), .int 0]))) (i + 19) (w.2.1 5) 11 sz (i + 20) 2 (hX0 w sz i) 11)
set_option maxHeartbeats 4000000 in
theorem lo_X0 {w : zE} {sz i : Nat} {g : zG} {b : Nat → va_E} (F : bF w sz (i + 1) g RX0 cX0_init 2 3) (hR : g.1.2.2.2 = bR 3 41 294) (hb : b i = .inr (0, [.ref (sz + (i + 1)), .ref (sz + (i + 15)), .ref (sz + (i + 17)), .ref (sz + (i + 19)), .int 0])) (K : BW w sz (i + 1) g 2 76 [some (.ref (sz + i)), some (.int (nI 11))] [] (loS b (i + 19) (w.2.1 5) 11 sz (i + 20) 2 (hX0 w sz i) 11) 41 294) : ∀ (r k : Nat), k + r = 11 → BW w sz (i + 1) g 2 48 [some (.ref (sz + i)), some (.int (nI k))] [] (loS b (i + 19) (w.2.1 5) 11 sz (i + 20) 2 (hX0 w sz i) k) (19 + 2 * k) (118 + 16 * k) := by
  intro r
  induction r with
  | zero =>
    intro k hk
    have hi : (loS b (i + 19) (w.2.1 5) 11 sz (i + 20) 2 (hX0 w sz i) k) i = _ := (loS_lo (show i ≠ (i + 19) by omega) (show i < (i + 20) by omega)).trans hb
    obtain rfl : k = 11 := by omega
    refine b_iload F dX0_init_48 rfl ?_
    refine b_aload F dX0_init_49 rfl ?_
    refine b_get (j := 3) F (by omega) hi rfl izX0 (by decide) rfl fl_X0_28 rfl dX0_init_50 ?_
    refine b_alen (t0 := 5) (v := nI 11) F (by omega) loS_a rfl rfl dX0_init_53 ?_
    exact b_ge (tgt := 76) F dX0_init_54 (by decide) (fun _ => K) (fun h => absurd h (by decide))
  | succ r ih =>
    intro k hk
    have hk2 : k < 11 := by omega
    have hi : (loS b (i + 19) (w.2.1 5) 11 sz (i + 20) 2 (hX0 w sz i) k) i = _ := (loS_lo (show i ≠ (i + 19) by omega) (show i < (i + 20) by omega)).trans hb
    refine b_iload F dX0_init_48 rfl ?_
    refine b_aload F dX0_init_49 rfl ?_
    refine b_get (j := 3) F (by omega) hi rfl izX0 (by decide) rfl fl_X0_28 rfl dX0_init_50 ?_
    refine b_alen (t0 := 5) (v := nI 11) F (by omega) loS_a rfl rfl dX0_init_53 ?_
    refine b_ge (tgt := 76) F dX0_init_54 (by decide) (fun h => absurd h (nI_ge hk2 (by decide))) (fun _ => ?_)
    refine b_aload F dX0_init_57 rfl ?_
    refine b_get (j := 3) F (by omega) hi rfl izX0 (by decide) rfl fl_X0_28 rfl dX0_init_58 ?_
    refine b_iload F dX0_init_61 rfl ?_
    refine b_new (ci := 5) (fs := [.int 0, .int 0, .int 0, .int 0, .int 0, .int 0, .null]) (j := ((i + 20) + 2 * k)) F bc_X0_18 bi_X5 bj_X5 izX5 tyX5 tyX5_ok rfl bd_X5 (by rw [hR]; show 19 + 2 * k + 1 ≤ 41; omega) (by rw [hR]; show 118 + 16 * k + 7 ≤ 294; omega) (by omega) dX0_init_62 ?_
    refine b_dup F dX0_init_65 rfl ?_
    refine b_callN F (c_X5_init (g.1.2.1) w sz ((i + 20) + 2 * k) _ (va_up_self _ _ _)) (by omega) zm_X5_init bm_X5 rfl F.2.2.2.2.2.2.2.2.2.2.2.2.2.2.2.1 (Nat.le_of_ble_eq_true rfl) dX0_init_66 (by decide) (by rw [hR]; show 19 + 2 * k + 1 + 1 ≤ 41; omega) (by rw [hR]; show 118 + 16 * k + 7 + 9 ≤ 294; omega) ?_
    refine b_astq (t0 := 5) (ci := 5) F (by omega) ((tX5_lo (show (i + 19) < ((i + 20) + 2 * k) by omega)).trans ((va_up_ne _ _ (show (i + 19) ≠ ((i + 20) + 2 * k) by omega)).trans loS_a)) rfl (by omega) (tX5_at (va_up_self _ _ _)) rfl (vp_in_nI hk2 (by decide)) dX0_init_69 ?_
    rw [nI_clamp (show k < 2 ^ 31 by omega)]
    refine b_ext (f' := (loS b (i + 19) (w.2.1 5) 11 sz (i + 20) 2 (hX0 w sz i) (k + 1))) (fun j hj => loS_s (by omega) (fun j h => (tX5_lo h).trans (va_up_ne _ _ (by omega))) (fun j h1 h2 => ?_) j (by omega)) ?_
    · rcases (show j = ((i + 20) + 2 * k) ∨ j = ((i + 20) + 2 * k) + 1 by omega) with rfl | rfl
      · rw [tX5_at (va_up_self _ _ _)]; unfold hX0; rw [if_pos (by omega)]
      · rw [tX5_1]; unfold hX0; rw [if_neg (by omega)]
    refine b_iinc F dX0_init_70 rfl (nI_1 k) (by decide) rfl rfl ?_
    refine b_goto (tgt := 48) F dX0_init_73 (by decide) ?_
    have q := ih (k + 1) (by omega)
    rw [show 19 + 2 * (k + 1) = 19 + 2 * k + 1 + 1 by omega, show 118 + 16 * (k + 1) = 118 + 16 * k + 7 + 9 by omega] at q
    exact q
theorem tX0_lo {w : zE} {sz i j : Nat} {f : Nat → va_E} (h : j < i) : tX0 w sz i f j = f j := by
  unfold tX0
  rw [loS_lo (show j ≠ (i + 19) by omega) (show j < (i + 20) by omega)]
  rw [va_up_ne _ _ (show j ≠ i by omega)]
  rw [va_up_ne _ _ (show j ≠ (i + 19) by omega)]
  rw [va_up_ne _ _ (show j ≠ i by omega)]
  rw [tX5_lo (show j < (i + 17) by omega)]
  rw [va_up_ne _ _ (show j ≠ (i + 17) by omega)]
  rw [va_up_ne _ _ (show j ≠ i by omega)]
  rw [tX5_lo (show j < (i + 15) by omega)]
  rw [va_up_ne _ _ (show j ≠ (i + 15) by omega)]
  rw [va_up_ne _ _ (show j ≠ i by omega)]
  rw [tX1_lo (show j < (i + 1) by omega)]
  rw [va_up_ne _ _ (show j ≠ (i + 1) by omega)]
theorem tX0_at {w : zE} {sz i : Nat} {f : Nat → va_E} (h0 : f i = .inr (0, [.null, .null, .null, .null, .int 0])) : tX0 w sz i f i = .inr (0, [.ref (sz + (i + 1)), .ref (sz + (i + 15)), .ref (sz + (i + 17)), .ref (sz + (i + 19)), .int 0]) := by
  exact (loS_lo (show i ≠ (i + 19) by omega) (show i < (i + 20) by omega)).trans ((va_up_self _ _ _))
set_option maxHeartbeats 4000000 in
theorem c_X0_init (l : Launch) (w : zE) (sz i : Nat) (f : Nat → va_E) (h0 : f i = .inr (0, [.null, .null, .null, .null, .int 0])) : bC l w sz yX0_init cX0_init 2 3 [.ref (sz + i)] (i + 1) f 41 294 (tX0 w sz i f) := by
  refine bC_of zm_X0_init rfl [some (.ref (sz + i)), none] rfl (by decide) (fun g hg hR hI F X => ?_)
  subst hg
  refine b_aload F dX0_init_0 rfl ?_
  refine b_obj F bo_X0 bo_1 bo_2 dX0_init_1 (by decide) ?_
  refine b_aload F dX0_init_4 rfl ?_
  refine b_new (ci := 1) (fs := [.null, .int 0, .null, .null, .int 0, .int 0, .int 0]) (j := (i + 1)) F bc_X0_9 bi_X1 bj_X1 izX1 tyX1 tyX1_ok rfl bd_X1 (by rw [hR]; show 0 + 1 ≤ 41; decide) (by rw [hR]; show 0 + 7 ≤ 294; decide) (by omega) dX0_init_5 ?_
  refine b_dup F dX0_init_8 rfl ?_
  refine b_callI F (c_X1_init (g.1.2.1) w sz (i + 1) _ ((va_up_self _ _ _))) (by omega) zm_X1_init bm_X1 rfl bl_X0_11 (Nat.le_of_ble_eq_true rfl) dX0_init_9 (by decide) (by rw [hR]; show 1 + 13 ≤ 41; decide) (by rw [hR]; show 7 + 68 ≤ 294; decide) ?_
  refine b_putF (j := 0) F hI (by omega) (((tX1_lo (show i < (i + 1) by omega)).trans ((va_up_ne _ _ (show i ≠ (i + 1) by omega)).trans h0))) rfl izX0 tyX0_ok nmX0 (by decide) rfl rfl fl_X0_12 rfl rfl rfl (Nat.le_of_ble_eq_true rfl) dX0_init_12 ?_
  refine b_aload F dX0_init_15 rfl ?_
  refine b_new (ci := 5) (fs := [.int 0, .int 0, .int 0, .int 0, .int 0, .int 0, .null]) (j := (i + 15)) F bc_X0_18 bi_X5 bj_X5 izX5 tyX5 tyX5_ok rfl bd_X5 (by rw [hR]; show 14 + 1 ≤ 41; decide) (by rw [hR]; show 75 + 7 ≤ 294; decide) (by omega) dX0_init_16 ?_
  refine b_dup F dX0_init_19 rfl ?_
  refine b_callN F (c_X5_init (g.1.2.1) w sz (i + 15) _ ((va_up_self _ _ _))) (by omega) zm_X5_init bm_X5 rfl F.2.2.2.2.2.2.2.2.2.2.2.2.2.2.2.1 (Nat.le_of_ble_eq_true rfl) dX0_init_20 (by decide) (by rw [hR]; show 15 + 1 ≤ 41; decide) (by rw [hR]; show 82 + 9 ≤ 294; decide) ?_
  refine b_putF (j := 1) F hI (by omega) (((tX5_lo (show i < (i + 15) by omega)).trans ((va_up_ne _ _ (show i ≠ (i + 15) by omega)).trans (va_up_self _ _ _)))) rfl izX0 tyX0_ok nmX0 (by decide) rfl rfl fl_X0_21 rfl rfl rfl (Nat.le_of_ble_eq_true rfl) dX0_init_23 ?_
  refine b_aload F dX0_init_26 rfl ?_
  refine b_new (ci := 5) (fs := [.int 0, .int 0, .int 0, .int 0, .int 0, .int 0, .null]) (j := (i + 17)) F bc_X0_18 bi_X5 bj_X5 izX5 tyX5 tyX5_ok rfl bd_X5 (by rw [hR]; show 16 + 1 ≤ 41; decide) (by rw [hR]; show 91 + 7 ≤ 294; decide) (by omega) dX0_init_27 ?_
  refine b_dup F dX0_init_30 rfl ?_
  refine b_callN F (c_X5_init (g.1.2.1) w sz (i + 17) _ ((va_up_self _ _ _))) (by omega) zm_X5_init bm_X5 rfl F.2.2.2.2.2.2.2.2.2.2.2.2.2.2.2.1 (Nat.le_of_ble_eq_true rfl) dX0_init_31 (by decide) (by rw [hR]; show 17 + 1 ≤ 41; decide) (by rw [hR]; show 98 + 9 ≤ 294; decide) ?_
  refine b_putF (j := 2) F hI (by omega) (((tX5_lo (show i < (i + 17) by omega)).trans ((va_up_ne _ _ (show i ≠ (i + 17) by omega)).trans (va_up_self _ _ _)))) rfl izX0 tyX0_ok nmX0 (by decide) rfl rfl fl_X0_25 rfl rfl rfl (Nat.le_of_ble_eq_true rfl) dX0_init_34 ?_
  refine b_aload F dX0_init_37 rfl ?_
  refine b_bipush (v := 11) F dX0_init_38 (by decide) ?_
  refine b_newq (N' := 11) (t0 := 5) (j := (i + 19)) F bc_X0_18 F.2.2.2.2.2.2.2.2.2.2.1.2.1 rfl (by decide) (by decide) (by decide) (by rw [hR]; show 18 + 1 ≤ 41; decide) (by rw [hR]; show 107 + 11 ≤ 294; decide) (by omega) dX0_init_40 ?_
  refine b_putF (j := 3) F hI (by omega) (((va_up_ne _ _ (show i ≠ (i + 19) by omega)).trans (va_up_self _ _ _))) rfl izX0 tyX0_ok nmX0 (by decide) rfl rfl fl_X0_28 rfl rfl rfl (Nat.le_of_ble_eq_true rfl) dX0_init_43 ?_
  refine b_iconst (v := nI 0) F dX0_init_46 (by decide) ?_
  refine b_istore F dX0_init_47 (by decide) rfl rfl ?_
  refine b_ext (f' := (loS _ (i + 19) (w.2.1 5) 11 sz (i + 20) 2 (hX0 w sz i) 0)) (fun j _ => loS_0 (m := (i + 20)) (st := 2) (ch := hX0 w sz i) (sz := sz) (((va_up_ne _ _ (show (i + 19) ≠ i by omega)).trans (va_up_self _ _ _))) j) ?_
  refine lo_X0 F hR ?_ ?_ 11 0 rfl
  · exact (va_up_self _ _ _)
  · exact b_vret F X dX0_init_76 (fun _ _ => rfl)
def hX7 (w : zE) (sz i : Nat) : Nat → va_E := (fun j => if (j - (i + 130)) % 2 = 0 then .inr (2, [.int 0, .int 0, .int 0, .ref (sz + (j + 1))]) else .inl (w.2.1 2, 16, .inr (.inl (fun _ => 0))))
def tX7 (w : zE) (sz i : Nat) (f : Nat → va_E) : Nat → va_E := (loS (va_up (va_up (va_up (tX0 w sz (i + 87) (va_up (va_up (tX3 w sz (i + 69) (va_up (va_up (tX6 w sz (i + 35) (va_up (va_up (tX6 w sz (i + 1) (va_up f (i + 1) (.inr (6, [.null, .null, .null, .int 0])))) i (.inr (7, [.ref (sz + (i + 1)), .null, .int 0, .null, .null, .null]))) (i + 35) (.inr (6, [.null, .null, .null, .int 0])))) i (.inr (7, [.ref (sz + (i + 1)), .ref (sz + (i + 35)), .int 0, .null, .null, .null]))) (i + 69) (.inr (3, [.null, .int 0, .int 0, .null, .null])))) i (.inr (7, [.ref (sz + (i + 1)), .ref (sz + (i + 35)), .int 0, .ref (sz + (i + 69)), .null, .null]))) (i + 87) (.inr (0, [.null, .null, .null, .null, .int 0])))) i (.inr (7, [.ref (sz + (i + 1)), .ref (sz + (i + 35)), .int 0, .ref (sz + (i + 69)), .ref (sz + (i + 87)), .null]))) (i + 129) (.inl (w.2.1 3, 4, .inr (.inr (.inr (.inr (fun _ => none))))))) i (.inr (7, [.ref (sz + (i + 1)), .ref (sz + (i + 35)), .int 0, .ref (sz + (i + 69)), .ref (sz + (i + 87)), .ref (sz + (i + 129))]))) (i + 129) (w.2.1 3) 4 sz (i + 130) 2 (hX7 w sz i) 4)
set_option maxHeartbeats 4000000 in
theorem lo_X7 {w : zE} {sz i : Nat} {g : zG} {b : Nat → va_E} (F : bF w sz (i + 1) g RX7 cX7_init 2 4) (hR : g.1.2.2.2 = bR 4 137 1061) (hb : b i = .inr (7, [.ref (sz + (i + 1)), .ref (sz + (i + 35)), .int 0, .ref (sz + (i + 69)), .ref (sz + (i + 87)), .ref (sz + (i + 129))])) (K : BW w sz (i + 1) g 2 86 [some (.ref (sz + i)), some (.int (nI 4))] [] (loS b (i + 129) (w.2.1 3) 4 sz (i + 130) 2 (hX7 w sz i) 4) 137 1061) : ∀ (r k : Nat), k + r = 4 → BW w sz (i + 1) g 2 58 [some (.ref (sz + i)), some (.int (nI k))] [] (loS b (i + 129) (w.2.1 3) 4 sz (i + 130) 2 (hX7 w sz i) k) (129 + 2 * k) (981 + 20 * k) := by
  intro r
  induction r with
  | zero =>
    intro k hk
    have hi : (loS b (i + 129) (w.2.1 3) 4 sz (i + 130) 2 (hX7 w sz i) k) i = _ := (loS_lo (show i ≠ (i + 129) by omega) (show i < (i + 130) by omega)).trans hb
    obtain rfl : k = 4 := by omega
    refine b_iload F dX7_init_58 rfl ?_
    refine b_aload F dX7_init_59 rfl ?_
    refine b_get (j := 5) F (by omega) hi rfl izX7 (by decide) rfl fl_X7_35 rfl dX7_init_60 ?_
    refine b_alen (t0 := 3) (v := nI 4) F (by omega) loS_a rfl rfl dX7_init_63 ?_
    exact b_ge (tgt := 86) F dX7_init_64 (by decide) (fun _ => K) (fun h => absurd h (by decide))
  | succ r ih =>
    intro k hk
    have hk2 : k < 4 := by omega
    have hi : (loS b (i + 129) (w.2.1 3) 4 sz (i + 130) 2 (hX7 w sz i) k) i = _ := (loS_lo (show i ≠ (i + 129) by omega) (show i < (i + 130) by omega)).trans hb
    refine b_iload F dX7_init_58 rfl ?_
    refine b_aload F dX7_init_59 rfl ?_
    refine b_get (j := 5) F (by omega) hi rfl izX7 (by decide) rfl fl_X7_35 rfl dX7_init_60 ?_
    refine b_alen (t0 := 3) (v := nI 4) F (by omega) loS_a rfl rfl dX7_init_63 ?_
    refine b_ge (tgt := 86) F dX7_init_64 (by decide) (fun h => absurd h (nI_ge hk2 (by decide))) (fun _ => ?_)
    refine b_aload F dX7_init_67 rfl ?_
    refine b_get (j := 5) F (by omega) hi rfl izX7 (by decide) rfl fl_X7_35 rfl dX7_init_68 ?_
    refine b_iload F dX7_init_71 rfl ?_
    refine b_new (ci := 2) (fs := [.int 0, .int 0, .int 0, .null]) (j := ((i + 130) + 2 * k)) F bc_X7_33 bi_X2 bj_X2 izX2 tyX2 tyX2_ok rfl bd_X2 (by rw [hR]; show 129 + 2 * k + 1 ≤ 137; omega) (by rw [hR]; show 981 + 20 * k + 4 ≤ 1061; omega) (by omega) dX7_init_72 ?_
    refine b_dup F dX7_init_75 rfl ?_
    refine b_callN F (c_X2_init (g.1.2.1) w sz ((i + 130) + 2 * k) _ (va_up_self _ _ _)) (by omega) zm_X2_init bm_X2 rfl F.2.2.2.2.2.2.2.2.2.2.2.2.2.2.2.2 (Nat.le_of_ble_eq_true rfl) dX7_init_76 (by decide) (by rw [hR]; show 129 + 2 * k + 1 + 1 ≤ 137; omega) (by rw [hR]; show 981 + 20 * k + 4 + 16 ≤ 1061; omega) ?_
    refine b_astq (t0 := 3) (ci := 2) F (by omega) ((tX2_lo (show (i + 129) < ((i + 130) + 2 * k) by omega)).trans ((va_up_ne _ _ (show (i + 129) ≠ ((i + 130) + 2 * k) by omega)).trans loS_a)) rfl (by omega) (tX2_at (va_up_self _ _ _)) rfl (vp_in_nI hk2 (by decide)) dX7_init_79 ?_
    rw [nI_clamp (show k < 2 ^ 31 by omega)]
    refine b_ext (f' := (loS b (i + 129) (w.2.1 3) 4 sz (i + 130) 2 (hX7 w sz i) (k + 1))) (fun j hj => loS_s (by omega) (fun j h => (tX2_lo h).trans (va_up_ne _ _ (by omega))) (fun j h1 h2 => ?_) j (by omega)) ?_
    · rcases (show j = ((i + 130) + 2 * k) ∨ j = ((i + 130) + 2 * k) + 1 by omega) with rfl | rfl
      · rw [tX2_at (va_up_self _ _ _)]; unfold hX7; rw [if_pos (by omega)]
      · rw [tX2_1]; unfold hX7; rw [if_neg (by omega)]
    refine b_iinc F dX7_init_80 rfl (nI_1 k) (by decide) rfl rfl ?_
    refine b_goto (tgt := 58) F dX7_init_83 (by decide) ?_
    have q := ih (k + 1) (by omega)
    rw [show 129 + 2 * (k + 1) = 129 + 2 * k + 1 + 1 by omega, show 981 + 20 * (k + 1) = 981 + 20 * k + 4 + 16 by omega] at q
    exact q
theorem tX7_lo {w : zE} {sz i j : Nat} {f : Nat → va_E} (h : j < i) : tX7 w sz i f j = f j := by
  unfold tX7
  rw [loS_lo (show j ≠ (i + 129) by omega) (show j < (i + 130) by omega)]
  rw [va_up_ne _ _ (show j ≠ i by omega)]
  rw [va_up_ne _ _ (show j ≠ (i + 129) by omega)]
  rw [va_up_ne _ _ (show j ≠ i by omega)]
  rw [tX0_lo (show j < (i + 87) by omega)]
  rw [va_up_ne _ _ (show j ≠ (i + 87) by omega)]
  rw [va_up_ne _ _ (show j ≠ i by omega)]
  rw [tX3_lo (show j < (i + 69) by omega)]
  rw [va_up_ne _ _ (show j ≠ (i + 69) by omega)]
  rw [va_up_ne _ _ (show j ≠ i by omega)]
  rw [tX6_lo (show j < (i + 35) by omega)]
  rw [va_up_ne _ _ (show j ≠ (i + 35) by omega)]
  rw [va_up_ne _ _ (show j ≠ i by omega)]
  rw [tX6_lo (show j < (i + 1) by omega)]
  rw [va_up_ne _ _ (show j ≠ (i + 1) by omega)]
theorem tX7_at {w : zE} {sz i : Nat} {f : Nat → va_E} (h0 : f i = .inr (7, [.null, .null, .int 0, .null, .null, .null])) : tX7 w sz i f i = .inr (7, [.ref (sz + (i + 1)), .ref (sz + (i + 35)), .int 0, .ref (sz + (i + 69)), .ref (sz + (i + 87)), .ref (sz + (i + 129))]) := by
  exact (loS_lo (show i ≠ (i + 129) by omega) (show i < (i + 130) by omega)).trans ((va_up_self _ _ _))
set_option maxHeartbeats 4000000 in
theorem c_X7_init (l : Launch) (w : zE) (sz i : Nat) (f : Nat → va_E) (h0 : f i = .inr (7, [.null, .null, .int 0, .null, .null, .null])) : bC l w sz yX7_init cX7_init 2 4 [.ref (sz + i)] (i + 1) f 137 1061 (tX7 w sz i f) := by
  refine bC_of zm_X7_init rfl [some (.ref (sz + i)), none] rfl (by decide) (fun g hg hR hI F X => ?_)
  subst hg
  refine b_aload F dX7_init_0 rfl ?_
  refine b_obj F bo_X7 bo_1 bo_2 dX7_init_1 (by decide) ?_
  refine b_aload F dX7_init_4 rfl ?_
  refine b_new (ci := 6) (fs := [.null, .null, .null, .int 0]) (j := (i + 1)) F bc_X7_7 bi_X6 bj_X6 izX6 tyX6 tyX6_ok rfl bd_X6 (by rw [hR]; show 0 + 1 ≤ 137; decide) (by rw [hR]; show 0 + 4 ≤ 1061; decide) (by omega) dX7_init_5 ?_
  refine b_dup F dX7_init_8 rfl ?_
  refine b_callI F (c_X6_init (g.1.2.1) w sz (i + 1) _ ((va_up_self _ _ _))) (by omega) zm_X6_init bm_X6 rfl bl_X7_9 (Nat.le_of_ble_eq_true rfl) dX7_init_9 (by decide) (by rw [hR]; show 1 + 33 ≤ 137; decide) (by rw [hR]; show 4 + 227 ≤ 1061; decide) ?_
  refine b_putF (j := 0) F hI (by omega) (((tX6_lo (show i < (i + 1) by omega)).trans ((va_up_ne _ _ (show i ≠ (i + 1) by omega)).trans h0))) rfl izX7 tyX7_ok nmX7 (by decide) rfl rfl fl_X7_10 rfl rfl rfl (Nat.le_of_ble_eq_true rfl) dX7_init_12 ?_
  refine b_aload F dX7_init_15 rfl ?_
  refine b_new (ci := 6) (fs := [.null, .null, .null, .int 0]) (j := (i + 35)) F bc_X7_7 bi_X6 bj_X6 izX6 tyX6 tyX6_ok rfl bd_X6 (by rw [hR]; show 34 + 1 ≤ 137; decide) (by rw [hR]; show 231 + 4 ≤ 1061; decide) (by omega) dX7_init_16 ?_
  refine b_dup F dX7_init_19 rfl ?_
  refine b_callI F (c_X6_init (g.1.2.1) w sz (i + 35) _ ((va_up_self _ _ _))) (by omega) zm_X6_init bm_X6 rfl bl_X7_9 (Nat.le_of_ble_eq_true rfl) dX7_init_20 (by decide) (by rw [hR]; show 35 + 33 ≤ 137; decide) (by rw [hR]; show 235 + 227 ≤ 1061; decide) ?_
  refine b_putF (j := 1) F hI (by omega) (((tX6_lo (show i < (i + 35) by omega)).trans ((va_up_ne _ _ (show i ≠ (i + 35) by omega)).trans (va_up_self _ _ _)))) rfl izX7 tyX7_ok nmX7 (by decide) rfl rfl fl_X7_16 rfl rfl rfl (Nat.le_of_ble_eq_true rfl) dX7_init_23 ?_
  refine b_aload F dX7_init_26 rfl ?_
  refine b_new (ci := 3) (fs := [.null, .int 0, .int 0, .null, .null]) (j := (i + 69)) F bc_X7_19 bi_X3 bj_X3 izX3 tyX3 tyX3_ok rfl bd_X3 (by rw [hR]; show 68 + 1 ≤ 137; decide) (by rw [hR]; show 462 + 5 ≤ 1061; decide) (by omega) dX7_init_27 ?_
  refine b_dup F dX7_init_30 rfl ?_
  refine b_callN F (c_X3_init (g.1.2.1) w sz (i + 69) _ ((va_up_self _ _ _))) (by omega) zm_X3_init bm_X3 rfl F.2.2.2.2.2.2.2.2.2.2.2.2.2.1 (Nat.le_of_ble_eq_true rfl) dX7_init_31 (by decide) (by rw [hR]; show 69 + 17 ≤ 137; decide) (by rw [hR]; show 467 + 211 ≤ 1061; decide) ?_
  refine b_putF (j := 3) F hI (by omega) (((tX3_lo (show i < (i + 69) by omega)).trans ((va_up_ne _ _ (show i ≠ (i + 69) by omega)).trans (va_up_self _ _ _)))) rfl izX7 tyX7_ok nmX7 (by decide) rfl rfl fl_X7_22 rfl rfl rfl (Nat.le_of_ble_eq_true rfl) dX7_init_34 ?_
  refine b_aload F dX7_init_37 rfl ?_
  refine b_new (ci := 0) (fs := [.null, .null, .null, .null, .int 0]) (j := (i + 87)) F bc_X7_26 bi_X0 bj_X0 izX0 tyX0 tyX0_ok rfl bd_X0 (by rw [hR]; show 86 + 1 ≤ 137; decide) (by rw [hR]; show 678 + 5 ≤ 1061; decide) (by omega) dX7_init_38 ?_
  refine b_dup F dX7_init_41 rfl ?_
  refine b_callI F (c_X0_init (g.1.2.1) w sz (i + 87) _ ((va_up_self _ _ _))) (by omega) zm_X0_init bm_X0 rfl bl_X7_28 (Nat.le_of_ble_eq_true rfl) dX7_init_42 (by decide) (by rw [hR]; show 87 + 41 ≤ 137; decide) (by rw [hR]; show 683 + 294 ≤ 1061; decide) ?_
  refine b_putF (j := 4) F hI (by omega) (((tX0_lo (show i < (i + 87) by omega)).trans ((va_up_ne _ _ (show i ≠ (i + 87) by omega)).trans (va_up_self _ _ _)))) rfl izX7 tyX7_ok nmX7 (by decide) rfl rfl fl_X7_29 rfl rfl rfl (Nat.le_of_ble_eq_true rfl) dX7_init_45 ?_
  refine b_aload F dX7_init_48 rfl ?_
  refine b_iconst (v := 4) F dX7_init_49 (by decide) ?_
  refine b_newq (N' := 4) (t0 := 3) (j := (i + 129)) F bc_X7_33 F.2.2.2.2.2.2.2.2.2.2.1.2.2 rfl (by decide) (by decide) (by decide) (by rw [hR]; show 128 + 1 ≤ 137; decide) (by rw [hR]; show 977 + 4 ≤ 1061; decide) (by omega) dX7_init_50 ?_
  refine b_putF (j := 5) F hI (by omega) (((va_up_ne _ _ (show i ≠ (i + 129) by omega)).trans (va_up_self _ _ _))) rfl izX7 tyX7_ok nmX7 (by decide) rfl rfl fl_X7_35 rfl rfl rfl (Nat.le_of_ble_eq_true rfl) dX7_init_53 ?_
  refine b_iconst (v := nI 0) F dX7_init_56 (by decide) ?_
  refine b_istore F dX7_init_57 (by decide) rfl rfl ?_
  refine b_ext (f' := (loS _ (i + 129) (w.2.1 3) 4 sz (i + 130) 2 (hX7 w sz i) 0)) (fun j _ => loS_0 (m := (i + 130)) (st := 2) (ch := hX7 w sz i) (sz := sz) (((va_up_ne _ _ (show (i + 129) ≠ i by omega)).trans (va_up_self _ _ _))) j) ?_
  refine lo_X7 F hR ?_ ?_ 4 0 rfl
  · exact (va_up_self _ _ _)
  · exact b_vret F X dX7_init_86 (fun _ _ => rfl)
