theorem n4 (j : Nat) : (4 : Int32) * nI j = nI (4 * j) := pk_mul 4 j
theorem n2 (j : Nat) : (2 : Int32) * nI j = nI (2 * j) := pk_mul 2 j
theorem n3 (j : Nat) : (3 : Int32) * nI j = nI (3 * j) := pk_mul 3 j
theorem n14 (j : Nat) : (14 : Int32) * nI j = nI (14 * j) := pk_mul 14 j
theorem n16 (j : Nat) : (16 : Int32) * nI j = nI (16 * j) := pk_mul 16 j
theorem n5 (j : Nat) : (5 : Int32) + nI j = nI (5 + j) := nI_add 5 j
theorem na1 (j : Nat) : nI j + 1 = nI (j + 1) := nI_add j 1
theorem na2 (j : Nat) : nI j + 2 = nI (j + 2) := nI_add j 2
theorem na3 (j : Nat) : nI j + 3 = nI (j + 3) := nI_add j 3
section ZN
variable {w : zE} {g : zG} {own : String} {cc : ByteArray} {nL D pc : Nat} {lv : List (Option Value)} {st : List Value} {M : zM}
theorem zn_lt31 (i : Nat) : zn i < 2 ^ 31 := by have := zn_le i; omega
theorem z_iald10n {i q : Nat} {x : Int32} (F : zF w g own cc nL D) (hk : zk i = 10) (hx : x = nI q) (hb : q < zn i) (hd : decode cc pc = .ok (.iaload, 1)) (k : ZW w g nL (pc + 1) lv (.int (M.1 i q) :: st) M) : ZW w g nL pc lv (.int x :: .ref (w.2.2 i) :: st) M := by
  subst hx
  refine z_iald10 F hk (vp_in_nI hb (zn_lt31 i)) hd ?_
  rw [nI_clamp (by have := zn_lt31 i; omega)]
  exact k
theorem z_iast10n {i q : Nat} {x v : Int32} (F : zF w g own cc nL D) (hk : zk i = 10) (hx : x = nI q) (hb : q < zn i) (hd : decode cc pc = .ok (.iastore, 1)) (k : ZW w g nL (pc + 1) lv st (zs M i q v)) : ZW w g nL pc lv (.int v :: .int x :: .ref (w.2.2 i) :: st) M := by
  subst hx
  refine z_iast10 F hk (vp_in_nI hb (zn_lt31 i)) hd ?_
  rw [nI_clamp (by have := zn_lt31 i; omega)]
  exact k
theorem z_lald14n {i q : Nat} {x : Int32} (F : zF w g own cc nL D) (hk : zk i = 14) (hx : x = nI q) (hb : q < zn i) (hd : decode cc pc = .ok (.laload, 1)) (k : ZW w g nL (pc + 1) lv (.long (M.2 i q) :: st) M) : ZW w g nL pc lv (.int x :: .ref (w.2.2 i) :: st) M := by
  subst hx
  refine z_lald14 F hk (vp_in_nI hb (zn_lt31 i)) hd ?_
  rw [nI_clamp (by have := zn_lt31 i; omega)]
  exact k
theorem z_last14n {i q : Nat} {x : Int32} {v : Int64} (F : zF w g own cc nL D) (hk : zk i = 14) (hx : x = nI q) (hb : q < zn i) (hd : decode cc pc = .ok (.lastore, 1)) (k : ZW w g nL (pc + 1) lv st (zy M i q v)) : ZW w g nL pc lv (.long v :: .int x :: .ref (w.2.2 i) :: st) M := by
  subst hx
  refine z_last14 F hk (vp_in_nI hb (zn_lt31 i)) hd ?_
  rw [nI_clamp (by have := zn_lt31 i; omega)]
  exact k
end ZN
/-- lengths of the reference's rows -/
theorem zn8 {o : Nat} (h : o = 138) : zn (o + 1) = 40 ∧ zn (o + 2) = 16 ∧ zn (o + 3) = 14 ∧ zn (o + 4) = 120 ∧ zn (o + 5) = 40 ∧ zn (o + 6) = 24 ∧ zn (o + 7) = 112 ∧ zn (o + 8) = 14 ∧ zn (o + 9) = 8 ∧ zn (o + 10) = 8 ∧ zn (o + 11) = 187 ∧ zn (o + 12) = 4 ∧ zn (o + 13) = 4 ∧ zn (o + 14) = 64 ∧ zn (o + 15) = 16 := by subst h; decide
theorem i2l_le {a b : Int32} : a.toInt64 ≤ b.toInt64 ↔ a ≤ b := by rw [Int64.le_iff_toInt_le, Int32.le_iff_toInt_le, Int32.toInt_toInt64, Int32.toInt_toInt64]
theorem i2l_lt {a b : Int32} : a.toInt64 < b.toInt64 ↔ a < b := by rw [Int64.lt_iff_toInt_lt, Int32.lt_iff_toInt_lt, Int32.toInt_toInt64, Int32.toInt_toInt64]
/-- he or one of the people has what is no thing, or a thing -/
def vx (nt : Nat) (x : Int32) : Prop := x = -4 ∨ ∃ j, j < nt ∧ x = nI j
def tvOK (nt np : Nat) (T : zF1) : Prop := vx nt (T 0) ∧ (∀ p, p < np → vx nt (T (5 + p))) ∧ (T 2 = 0 ∨ T 2 = 1)
def kdOK (th : zF1) : Prop := ∀ j, j < 10 → th (4 * j) = 0 ∨ th (4 * j) = 1 ∨ th (4 * j) = 2 ∨ th (4 * j) = 3
/-- the reference's road in the class's order -/
def rbM (R : zF1) : zF1 := fun k => if k = 0 then R 0 else if k = 1 then R 1 else if k = 2 then R 5 else if k = 3 then R 6 else 0
theorem vx_in {nt : Nat} {x : Int32} (h : vx nt x) (h10 : nt ≤ 10) : (x = -4 ∧ ¬ (0 ≤ x ∧ x < nI nt)) ∨ ∃ j, j < nt ∧ x = nI j ∧ (0 ≤ x ∧ x < nI nt) := by
  rcases h with rfl | ⟨j, hj, rfl⟩
  · exact Or.inl ⟨rfl, fun q => absurd q.1 (by decide)⟩
  · exact Or.inr ⟨j, hj, rfl, nI_pos' (by omega), nI_lt hj (by omega)⟩
