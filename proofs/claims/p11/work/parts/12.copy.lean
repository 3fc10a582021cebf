theorem ac_X1_51 : Cond.methodLink RX1 51 arraycopyName ∈ zTb := zTb_in (List.mem_of_getElem? (i := 409) (by decide +kernel)) (by decide +kernel)
theorem ac_X5_34 : Cond.methodLink RX5 34 arraycopyName ∈ zTb := zTb_in (List.mem_of_getElem? (i := 416) (by decide +kernel)) (by decide +kernel)
theorem ac_X7_265 : Cond.methodLink RX7 265 arraycopyName ∈ zTb := zTb_in (List.mem_of_getElem? (i := 776) (by decide +kernel)) (by decide +kernel)
theorem ac_st : Cond.static arraycopyName ∈ zTb := zTb_in (List.mem_of_getElem? (i := 410) (by decide +kernel)) (by decide +kernel)
theorem ac_na : Cond.native arraycopyName ∈ zTb := zTb_in (List.mem_of_getElem? (i := 411) (by decide +kernel)) (by decide +kernel)
theorem ac_in : Cond.initialized "java/lang/System" ∈ zTb := by decide +kernel
theorem mi_X3_109 : Cond.methodLink RX3 109 Lib.Math.min.name ∈ zTb := zTb_in (List.mem_of_getElem? (i := 528) (by decide +kernel)) (by decide +kernel)
theorem mi_st : Cond.static Lib.Math.min.name ∈ zTb := zTb_in (List.mem_of_getElem? (i := 467) (by decide +kernel)) (by decide +kernel)
theorem mi_in : Cond.initialized "java/lang/Math" ∈ zTb := by decide +kernel
theorem mi_co : Cond.code Lib.Math.min.name Lib.Math.min.code 2 (some .int) ∈ zTb := by decide +kernel
/-- the first n ints of g over f -/
def cpF (n : Nat) (f g : zF1) : zF1 := fun o => if o < n then g o else f o
section ZK
variable {w : zE} {g : zG} {own : String} {cc : ByteArray} {nL D pc : Nat} {lv : List (Option Value)} {M : zM}
theorem z_copyG {i j idx n0 n1 : Nat} {f h : zF1} {M' : zM} {sp dp n : Int32} (F : zF w g own cc nL D) (hi : i < 154) (hj : j < 154) (hei : zc w M i = .inl (w.2.1 1, n0, .inl f)) (hej : zc w M j = .inl (w.2.1 1, n1, .inl h)) (h1 : ¬ sp < 0) (h2 : ¬ dp < 0) (h3 : ¬ n < 0) (h4 : sp.toNatClampNeg + n.toNatClampNeg ≤ n0) (h5 : dp.toNatClampNeg + n.toNatClampNeg ≤ n1) (hs : zc w M' j = .inl (w.2.1 1, n1, .inl (va_cpy f h sp.toNatClampNeg dp.toNatClampNeg n.toNatClampNeg))) (ho : ∀ q, q < 154 → q ≠ j → zc w M' q = zc w M q) (hl : Cond.methodLink own idx arraycopyName ∈ zTb) (hd : decode cc pc = .ok (.invokestatic idx, 3)) (hD : 1 ≤ D) (k : ZW w g nL (pc + 3) lv [] M') : ZW w g nL pc lv [.int n, .int dp, .ref (w.2.2 j), .int sp, .ref (w.2.2 i)] M := fun H locs ls hl1 hP hS => by
  have f1 := F.2.2.2.2.2.2.2.2.2.1
  have f2 := F.2.2.2.2.2.2.2.2.2.2.1
  refine va_copyi F.1 F.2.1 (by rw [F.2.2.1]; exact hl1.1.symm) F.2.2.2.1 (F.2.2.2.2.1 _ hl) (F.2.2.2.2.1 _ ac_na) (F.2.2.2.2.1 _ ac_st) (F.2.2.2.2.1 _ ac_in) F.2.2.2.2.2.2.1 hP.P (zP.D F.2.2.2.2.2.2.2.1 F.2.2.2.2.2.2.2.2.1) hS i j 1 1 (by rw [zL0_at hi, hei]) (by rw [zL0_at hj, hej]) rfl rfl rfl h1 h2 h3 h4 h5 (fun _ _ => rfl) (by omega) (show 0 + (5 + 2 + 11) ≤ _ by omega) hd (fun H1 locs1 hP1 _ hS1 => k H1 locs1 ls hl1 (zP.put hj hP1 hs ho) hS1)
theorem z_copy11 {i j idx : Nat} (F : zF w g own cc nL D) (hi : zk (i + 1) = 11) (hj : zk (j + 1) = 11) (hl : Cond.methodLink own idx arraycopyName ∈ zTb) (hd : decode cc pc = .ok (.invokestatic idx, 3)) (hD : 1 ≤ D) (k : ZW w g nL (pc + 3) lv [] (za M j (fun o => if 5 ≤ o ∧ o < 14 then M.1 i o else M.1 j o))) : ZW w g nL pc lv [.int 9, .int 0, .ref (w.2.2 (j + 1)), .int 0, .ref (w.2.2 (i + 1))] M := by
  have l1 := zk_i hi (by decide)
  have l2 := zk_i hj (by decide)
  refine z_copyG F l1 l2 (zc_eq hi) (zc_eq hj) (by decide) (by decide) (by decide) (by decide) (by decide) ?_ (za_other l2 (fun o hne => ?_)) hl hd hD k
  · rw [zc_eq hj]
    refine congrArg Sum.inl (congrArg (Prod.mk _) (congrArg (Prod.mk _) (congrArg Sum.inl (funext fun q => ?_))))
    show va_up M.1 j _ (j + 1 - 1) (5 + q) = _
    rw [Nat.add_sub_cancel, va_up_self]
    show (if 5 ≤ 5 + q ∧ 5 + q < 14 then M.1 i (5 + q) else M.1 j (5 + q)) = if 0 ≤ q ∧ q < 0 + 9 then M.1 (i + 1 - 1) (5 + (0 + (q - 0))) else M.1 (j + 1 - 1) (5 + q)
    by_cases h : q < 9
    · rw [if_pos (by omega), if_pos (by omega)]
      simp
    · rw [if_neg (by omega), if_neg (by omega)]
      rfl
  · rw [hj]
    refine ⟨by omega, ?_⟩
    by_cases h : 5 ≤ o
    · exact h
    · exact absurd (if_neg (by omega)) hne
theorem z_copy12 {i j idx : Nat} (F : zF w g own cc nL D) (hi : zk i = 12) (hj : zk j = 12) (hl : Cond.methodLink own idx arraycopyName ∈ zTb) (hd : decode cc pc = .ok (.invokestatic idx, 3)) (hD : 1 ≤ D) (k : ZW w g nL (pc + 3) lv [] (za M j (fun o => if o % 2 = 0 ∧ o < 18 then M.1 i o else M.1 j o))) : ZW w g nL pc lv [.int 9, .int 0, .ref (w.2.2 j), .int 0, .ref (w.2.2 i)] M := by
  have l1 := zk_i hi (by decide)
  have l2 := zk_i hj (by decide)
  refine z_copyG F l1 l2 (zc_eq hi) (zc_eq hj) (by decide) (by decide) (by decide) (by decide) (by decide) ?_ (za_other l2 (fun o hne => ?_)) hl hd hD k
  · rw [zc_eq hj]
    refine congrArg Sum.inl (congrArg (Prod.mk _) (congrArg (Prod.mk _) (congrArg Sum.inl (funext fun q => ?_))))
    show va_up M.1 j _ j (2 * q) = _
    rw [va_up_self]
    show (if 2 * q % 2 = 0 ∧ 2 * q < 18 then M.1 i (2 * q) else M.1 j (2 * q)) = if 0 ≤ q ∧ q < 0 + 9 then M.1 i (2 * (0 + (q - 0))) else M.1 j (2 * q)
    by_cases h : q < 9
    · rw [if_pos (by omega), if_pos (by omega)]
      simp
    · rw [if_neg (by omega), if_neg (by omega)]
  · rw [hj]
    refine ⟨rfl, ?_⟩
    by_cases h : o % 2 = 0
    · exact h
    · exact absurd (if_neg (by omega)) hne
theorem z_copy13 {i j idx : Nat} (F : zF w g own cc nL D) (hi : zk (i + 1) = 13) (hj : zk (j + 1) = 13) (hl : Cond.methodLink own idx arraycopyName ∈ zTb) (hd : decode cc pc = .ok (.invokestatic idx, 3)) (hD : 1 ≤ D) (k : ZW w g nL (pc + 3) lv [] (za M j (fun o => if o % 2 = 1 ∧ o < 18 then M.1 i o else M.1 j o))) : ZW w g nL pc lv [.int 9, .int 0, .ref (w.2.2 (j + 1)), .int 0, .ref (w.2.2 (i + 1))] M := by
  have l1 := zk_i hi (by decide)
  have l2 := zk_i hj (by decide)
  refine z_copyG F l1 l2 (zc_eq hi) (zc_eq hj) (by decide) (by decide) (by decide) (by decide) (by decide) ?_ (za_other l2 (fun o hne => ?_)) hl hd hD k
  · rw [zc_eq hj]
    refine congrArg Sum.inl (congrArg (Prod.mk _) (congrArg (Prod.mk _) (congrArg Sum.inl (funext fun q => ?_))))
    show va_up M.1 j _ (j + 1 - 1) (2 * q + 1) = _
    rw [Nat.add_sub_cancel, va_up_self]
    show (if (2 * q + 1) % 2 = 1 ∧ 2 * q + 1 < 18 then M.1 i (2 * q + 1) else M.1 j (2 * q + 1)) = if 0 ≤ q ∧ q < 0 + 9 then M.1 (i + 1 - 1) (2 * (0 + (q - 0)) + 1) else M.1 (j + 1 - 1) (2 * q + 1)
    by_cases h : q < 9
    · rw [if_pos (by omega), if_pos (by omega)]
      simp
    · rw [if_neg (by omega), if_neg (by omega)]
      rfl
  · rw [hj]
    refine ⟨by omega, ?_⟩
    by_cases h : o % 2 = 1
    · exact h
    · exact absurd (if_neg (by omega)) hne
theorem z_min {x y : Int32} {idx : Nat} {st : List Value} (F : zF w g own cc nL D) (hl : Cond.methodLink own idx Lib.Math.min.name ∈ zTb) (hst : (st.map fun v => v.category).sum ≤ 8) (hd : decode cc pc = .ok (.invokestatic idx, 3)) (hD : 1 ≤ D) (k : ZW w g nL (pc + 3) lv (.int (if y < x then y else x) :: st) M) : ZW w g nL pc lv (.int y :: .int x :: st) M := fun H locs ls hl1 hP hS => by
  have f1 := F.2.2.2.2.2.2.2.2.2.1
  have f2 := F.2.2.2.2.2.2.2.2.2.2.1
  exact va_mmin F.1 F.2.1 (by rw [F.2.2.1]; exact hl1.1.symm) F.2.2.2.1 (F.2.2.2.2.1 _ hl) (F.2.2.2.2.1 _ mi_st) (F.2.2.2.2.1 _ mi_in) (F.2.2.2.2.1 _ mi_co) (by omega) (by omega) F.2.2.2.2.2.2.2.2.2.2.2.1 F.2.2.2.2.2.2.2.2.2.2.2.2.1 hd (k H locs ls hl1 hP hS)
end ZK
