/-! which ints the heap shows: others may be taken as one likes -/
def zrep (i b o : Nat) : Nat → Prop
  | 1 => b = i ∧ o < 4
  | 4 => b = zb i ∧ o / 4 = zo i
  | 5 => (b = i ∧ o < 5) ∨ (b = i + 1 ∧ o = 0)
  | 9 => b = i ∧ o < 120
  | 10 => b = i ∧ o < 187
  | 11 => b = i - 1 ∧ 5 ≤ o ∧ o < 14
  | 12 => b = i ∧ o % 2 = 0 ∧ o < 18
  | 13 => b = i - 1 ∧ o % 2 = 1 ∧ o < 18
  | 14 => False
  | 15 => False
  | 16 => False
  | 17 => False
  | 18 => b = i ∧ o < 8
  | _ => b = i ∧ o < 30
theorem arrV_ext {cI : ClassId} {N : Nat} {f h : Nat → Value} (e : ∀ j, j < N → f j = h j) : arrV cI N f = arrV cI N h := by
  unfold arrV
  congr 2
  funext j
  exact e j.1 j.2
theorem vpi_ext {c : ClassId} {n : Nat} {f h : zF1} (e : ∀ j, j < n → h j = f j) : vp_cell c (n, .inl f) = vp_cell c (n, .inl h) := by
  rw [vp_cell_i, vp_cell_i]
  exact arrV_ext fun j hj => congrArg Value.int (e j hj).symm
theorem vpj_ext {c : ClassId} {n : Nat} {f h : Nat → Int64} (e : ∀ j, j < n → h j = f j) : vp_cell c (n, .inr (.inl f)) = vp_cell c (n, .inr (.inl h)) := by
  rw [vp_cell_l, vp_cell_l]
  exact arrV_ext fun j hj => congrArg Value.long (e j hj).symm
theorem vpq_ext {c : ClassId} {n : Nat} {f h : Nat → Option Nat} (e : ∀ j, j < n → h j = f j) : vp_cell c (n, .inr (.inr (.inr (.inr f)))) = vp_cell c (n, .inr (.inr (.inr (.inr h)))) := by
  rw [vp_cell_q, vp_cell_q]
  exact arrV_ext fun j hj => congrArg va_rf (e j hj).symm
theorem zn_le (i : Nat) : zn i ≤ 187 := by
  rcases Nat.lt_or_ge i 153 with q | q
  · exact (by decide +kernel : ∀ i, i < 153 → zn i ≤ 187) i q
  · unfold zn
    repeat rw [if_neg (by omega)]
    omega
theorem zat_9 {w : zE} {M M' : zM} {H : Heap} {i : Nat} (e : ∀ j, j < 120 → (M'.1 i) j = (M.1 i) j) (h : va_at w.1 vwCl (w.2.2 i, zcK w M i 9) H) : va_at w.1 vwCl (w.2.2 i, zcK w M' i 9) H := Eq.trans (show H[w.2.2 i]? = some (vp_cell (w.2.1 0) (120, .inl (M.1 i))) from h) (congrArg some (vpi_ext e))
theorem zat_10 {w : zE} {M M' : zM} {H : Heap} {i : Nat} (e : ∀ j, j < zn i → (M'.1 i) j = (M.1 i) j) (h : va_at w.1 vwCl (w.2.2 i, zcK w M i 10) H) : va_at w.1 vwCl (w.2.2 i, zcK w M' i 10) H := Eq.trans (show H[w.2.2 i]? = some (vp_cell (w.2.1 1) (zn i, .inl (M.1 i))) from h) (congrArg some (vpi_ext e))
theorem zat_11 {w : zE} {M M' : zM} {H : Heap} {i : Nat} (e : ∀ j, j < 9 → (fun k => M'.1 (i - 1) (5 + k)) j = (fun k => M.1 (i - 1) (5 + k)) j) (h : va_at w.1 vwCl (w.2.2 i, zcK w M i 11) H) : va_at w.1 vwCl (w.2.2 i, zcK w M' i 11) H := Eq.trans (show H[w.2.2 i]? = some (vp_cell (w.2.1 1) (9, .inl (fun k => M.1 (i - 1) (5 + k)))) from h) (congrArg some (vpi_ext e))
theorem zat_12 {w : zE} {M M' : zM} {H : Heap} {i : Nat} (e : ∀ j, j < 9 → (fun k => M'.1 i (2 * k)) j = (fun k => M.1 i (2 * k)) j) (h : va_at w.1 vwCl (w.2.2 i, zcK w M i 12) H) : va_at w.1 vwCl (w.2.2 i, zcK w M' i 12) H := Eq.trans (show H[w.2.2 i]? = some (vp_cell (w.2.1 1) (9, .inl (fun k => M.1 i (2 * k)))) from h) (congrArg some (vpi_ext e))
theorem zat_13 {w : zE} {M M' : zM} {H : Heap} {i : Nat} (e : ∀ j, j < 9 → (fun k => M'.1 (i - 1) (2 * k + 1)) j = (fun k => M.1 (i - 1) (2 * k + 1)) j) (h : va_at w.1 vwCl (w.2.2 i, zcK w M i 13) H) : va_at w.1 vwCl (w.2.2 i, zcK w M' i 13) H := Eq.trans (show H[w.2.2 i]? = some (vp_cell (w.2.1 1) (9, .inl (fun k => M.1 (i - 1) (2 * k + 1)))) from h) (congrArg some (vpi_ext e))
theorem zat_14 {w : zE} {M M' : zM} {H : Heap} {i : Nat} (e : ∀ j, j < zn i → (M'.2 i) j = (M.2 i) j) (h : va_at w.1 vwCl (w.2.2 i, zcK w M i 14) H) : va_at w.1 vwCl (w.2.2 i, zcK w M' i 14) H := Eq.trans (show H[w.2.2 i]? = some (vp_cell (w.2.1 2) (zn i, .inr (.inl (M.2 i)))) from h) (congrArg some (vpj_ext e))
theorem zat_18 {w : zE} {M M' : zM} {H : Heap} {i : Nat} (e : ∀ j, j < 8 → (fun k => some (w.2.2 (i + 1 + 2 * (M'.1 i k).toNatClampNeg))) j = (fun k => some (w.2.2 (i + 1 + 2 * (M.1 i k).toNatClampNeg))) j) (h : va_at w.1 vwCl (w.2.2 i, zcK w M i 18) H) : va_at w.1 vwCl (w.2.2 i, zcK w M' i 18) H := Eq.trans (show H[w.2.2 i]? = some (vp_cell (w.2.1 5) (8, .inr (.inr (.inr (.inr (fun k => some (w.2.2 (i + 1 + 2 * (M.1 i k).toNatClampNeg)))))))) from h) (congrArg some (vpq_ext e))
theorem zat_ext {w : zE} {M M' : zM} {H : Heap} {i : Nat} (h1 : ∀ b o, zrep i b o (zk i) → M'.1 b o = M.1 b o) (h2 : ∀ o, o < zn i → M'.2 i o = M.2 i o) (h : va_at w.1 vwCl (w.2.2 i, zc w M i) H) : va_at w.1 vwCl (w.2.2 i, zc w M' i) H := by
  have hz := zn_le i
  unfold zc at *
  generalize zk i = k at *
  match k with
  | 0 => rw [show zcK w M' i 0 = zcK w M i 0 by simp only [zcK, h1 i 4 (show zrep i i 4 0 from ⟨rfl, by omega⟩)]]; exact h
  | 1 => rw [show zcK w M' i 1 = zcK w M i 1 by simp only [zcK, h1 i 0 (show zrep i i 0 1 from ⟨rfl, by omega⟩), h1 i 1 (show zrep i i 1 1 from ⟨rfl, by omega⟩), h1 i 2 (show zrep i i 2 1 from ⟨rfl, by omega⟩), h1 i 3 (show zrep i i 3 1 from ⟨rfl, by omega⟩)]]; exact h
  | 2 => rw [show zcK w M' i 2 = zcK w M i 2 by simp only [zcK, h1 i 0 (show zrep i i 0 2 from ⟨rfl, by omega⟩), h1 i 1 (show zrep i i 1 2 from ⟨rfl, by omega⟩), h1 i 2 (show zrep i i 2 2 from ⟨rfl, by omega⟩)]]; exact h
  | 3 => rw [show zcK w M' i 3 = zcK w M i 3 by simp only [zcK, h1 i 1 (show zrep i i 1 3 from ⟨rfl, by omega⟩), h1 i 2 (show zrep i i 2 3 from ⟨rfl, by omega⟩)]]; exact h
  | 4 => rw [show zcK w M' i 4 = zcK w M i 4 by simp only [zcK, h1 (zb i) (4 * zo i) ⟨rfl, by omega⟩, h1 (zb i) (4 * zo i + 1) ⟨rfl, by omega⟩, h1 (zb i) (4 * zo i + 2) ⟨rfl, by omega⟩, h1 (zb i) (4 * zo i + 3) ⟨rfl, by omega⟩]]; exact h
  | 5 => rw [show zcK w M' i 5 = zcK w M i 5 by simp only [zcK, h1 i 0 (Or.inl ⟨rfl, by omega⟩), h1 i 1 (Or.inl ⟨rfl, by omega⟩), h1 i 2 (Or.inl ⟨rfl, by omega⟩), h1 i 3 (Or.inl ⟨rfl, by omega⟩), h1 i 4 (Or.inl ⟨rfl, by omega⟩), h1 (i + 1) 0 (Or.inr ⟨rfl, rfl⟩)]]; exact h
  | 6 => rw [show zcK w M' i 6 = zcK w M i 6 by simp only [zcK, h1 i 3 (show zrep i i 3 6 from ⟨rfl, by omega⟩)]]; exact h
  | 7 => rw [show zcK w M' i 7 = zcK w M i 7 by simp only [zcK, h1 i 2 (show zrep i i 2 7 from ⟨rfl, by omega⟩)]]; exact h
  | 8 =>
    have q : ∀ o, o < 30 → M'.1 i o = M.1 i o := fun o ho => h1 i o (show zrep i i o 8 from ⟨rfl, ho⟩)
    rw [show zcK w M' i 8 = zcK w M i 8 by simp only [zcK, q 0 (by omega), q 1 (by omega), q 5 (by omega), q 6 (by omega), q 7 (by omega), q 8 (by omega), q 10 (by omega), q 11 (by omega), q 12 (by omega), q 13 (by omega), q 14 (by omega), q 15 (by omega), q 18 (by omega), q 20 (by omega), q 25 (by omega)]]
    exact h
  | 9 => exact zat_9 (fun j hj => h1 i j (show zrep i i j 9 from ⟨rfl, hj⟩)) h
  | 10 => exact zat_10 (fun j hj => h1 i j (show zrep i i j 10 from ⟨rfl, Nat.lt_of_lt_of_le hj hz⟩)) h
  | 11 => exact zat_11 (fun j hj => h1 (i - 1) (5 + j) (show zrep i (i - 1) (5 + j) 11 from ⟨rfl, by omega, by omega⟩)) h
  | 12 => exact zat_12 (fun j hj => h1 i (2 * j) (show zrep i i (2 * j) 12 from ⟨rfl, by omega, by omega⟩)) h
  | 13 => exact zat_13 (fun j hj => h1 (i - 1) (2 * j + 1) (show zrep i (i - 1) (2 * j + 1) 13 from ⟨rfl, by omega, by omega⟩)) h
  | 14 => exact zat_14 (fun j hj => h2 j hj) h
  | 15 => simp only [zcK] at h ⊢; exact h
  | 16 => simp only [zcK] at h ⊢; exact h
  | 17 => simp only [zcK] at h ⊢; exact h
  | 18 => exact zat_18 (fun j hj => by show some _ = some _; rw [h1 i j (show zrep i i j 18 from ⟨rfl, hj⟩)]) h
  | n + 19 => simp only [zcK] at h ⊢; exact h
def zbd : Nat → Nat
  | 1 => 4
  | 5 => 14
  | 9 => 120
  | 11 => 1
  | 12 => 18
  | 16 => 40
  | 18 => 8
  | _ => 187
theorem zrep_bd {i b o : Nat} (hi : i < 154) (h : zrep i b o (zk i)) : o < zbd (zk b) := by
  obtain ⟨h4, h5, h11, h12, h13, h18⟩ := zk_lay i hi
  have h4b : ∀ i, i < 154 → zk i = 4 → zo i < 10 := by decide +kernel
  have h4b := h4b i hi
  generalize hk : zk i = k at *
  match k, h18 with
  | 0, _ => obtain ⟨rfl, q⟩ := h; rw [hk]; show o < 187; omega
  | 1, _ => obtain ⟨rfl, q⟩ := h; rw [hk]; exact q
  | 2, _ => obtain ⟨rfl, q⟩ := h; rw [hk]; show o < 187; omega
  | 3, _ => obtain ⟨rfl, q⟩ := h; rw [hk]; show o < 187; omega
  | 4, _ => obtain ⟨rfl, q⟩ := h; rw [(h4 rfl).1]; have := h4b rfl; show o < 40; omega
  | 5, _ =>
    rcases h with ⟨rfl, q⟩ | ⟨rfl, q⟩
    · rw [hk]; show o < 14; omega
    · rw [h5 rfl]; show o < 1; omega
  | 6, _ => obtain ⟨rfl, q⟩ := h; rw [hk]; show o < 187; omega
  | 7, _ => obtain ⟨rfl, q⟩ := h; rw [hk]; show o < 187; omega
  | 8, _ => obtain ⟨rfl, q⟩ := h; rw [hk]; show o < 187; omega
  | 9, _ => obtain ⟨rfl, q⟩ := h; rw [hk]; exact q
  | 10, _ => obtain ⟨rfl, q⟩ := h; rw [hk]; exact q
  | 11, _ => obtain ⟨rfl, q, q2⟩ := h; rw [(h11 rfl).2]; exact q2
  | 12, _ => obtain ⟨rfl, q, q2⟩ := h; rw [hk]; exact q2
  | 13, _ => obtain ⟨rfl, q, q2⟩ := h; rw [(h13 rfl).2]; exact q2
  | 14, _ => exact absurd h (by simp [zrep])
  | 15, _ => exact absurd h (by simp [zrep])
  | 16, _ => exact absurd h (by simp [zrep])
  | 17, _ => exact absurd h (by simp [zrep])
  | 18, _ => obtain ⟨rfl, q⟩ := h; rw [hk]; exact q
  | n + 19, q => omega
/-- two memories that the heap can't tell apart -/
def zEq (M M' : zM) : Prop := (∀ b o, o < zbd (zk b) → M'.1 b o = M.1 b o) ∧ ∀ i o, o < zn i → M'.2 i o = M.2 i o
theorem zP_eq {w : zE} {M M' : zM} {H : Heap} (e : zEq M M') (h : zP w M H) : zP w M' H := fun i hi => zat_ext (fun b o q => e.1 b o (zrep_bd hi q)) (e.2 i) (h i hi)
theorem zEq.rf (M : zM) : zEq M M := ⟨fun _ _ _ => rfl, fun _ _ _ => rfl⟩
theorem zEq.tr {M M' M2 : zM} (h : zEq M M') (h2 : zEq M' M2) : zEq M M2 := ⟨fun b o q => (h2.1 b o q).trans (h.1 b o q), fun i o q => (h2.2 i o q).trans (h.2 i o q)⟩
theorem zEq.blk {M M' : zM} {b : Nat} {f h : zF1} (e : zEq M M') (hf : ∀ o, o < zbd (zk b) → h o = f o) : zEq (za M b f) (za M' b h) := by
  refine ⟨fun c o q => ?_, e.2⟩
  show va_up M'.1 b h c o = va_up M.1 b f c o
  by_cases hc : c = b
  · subst hc
    rw [va_up_self, va_up_self]
    exact hf o q
  · rw [va_up_ne _ _ hc, va_up_ne _ _ hc]
    exact e.1 c o q
theorem z_sim {w : zE} {g : zG} {nL pc : Nat} {lv : List (Option Value)} {st : List Value} {M M' : zM} (e : zEq M M') (k : ZW w g nL pc lv st M') : ZW w g nL pc lv st M := fun H locs ls hl hP hS => k H locs ls hl (zP_eq e hP) hS
theorem cpF_bd {n o : Nat} {f h : zF1} (ho : o < n) : h o = cpF n f h o := (if_pos ho).symm
