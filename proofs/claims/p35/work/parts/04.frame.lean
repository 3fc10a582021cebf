/-! THE MEMORY: blocks of ints and blocks of longs; 154 cells at the addresses w.2.2 0 .. 153, of the kinds zk -/
abbrev zM : Type := (Nat → Nat → Int32) × (Nat → Nat → Int64)
abbrev zE : Type := va_G × (Nat → ClassId) × (Nat → Nat)
def zkR (j : Nat) : Nat := if j = 0 then 1 else if j = 1 then 16 else if j < 12 then 4 else if j = 12 then 12 else 13
def zkP (j : Nat) : Nat := if j % 2 = 0 then 5 else 11
def zkW (j : Nat) : Nat := if j = 0 then 6 else if j < 15 then zkR (j - 1) else if j < 17 then zkP (j - 15) else if j = 17 then 18 else zkP (j - 18)
def zkT (j : Nat) : Nat := if j = 0 then 3 else if j = 1 then 9 else if j < 16 then zkR (j - 2) else zkP (j - 16)
def zkF (j : Nat) : Nat := if j = 0 then 0 else if j < 15 then zkR (j - 1) else if j < 19 then zkP (j - 15) else if j = 19 then 17 else zkP (j - 20)
def zk (i : Nat) : Nat := if i = 0 then 7 else if i < 35 then zkW (i - 1) else if i < 69 then zkW (i - 35) else if i < 87 then zkT (i - 69) else if i < 129 then zkF (i - 87) else if i = 129 then 15 else if i < 138 then (if i % 2 = 0 then 2 else 14) else if i = 138 then 8 else if i < 152 then 10 else if i < 154 then 14 else 99
/-- a Thing's number in its road -/
def zo (i : Nat) : Nat := if i < 35 then i - 4 else if i < 69 then i - 38 else if i < 87 then i - 73 else i - 90
/-- a Thing's block: the cell of its array -/
def zb (i : Nat) : Nat := i - 1 - zo i
/-- lengths of the reference's arrays, and of rows of longs -/
def zn (i : Nat) : Nat := if i = 139 then 40 else if i = 140 then 16 else if i = 141 then 14 else if i = 142 then 120 else if i = 143 then 40 else if i = 144 then 24 else if i = 145 then 112 else if i = 146 then 14 else if i = 147 then 8 else if i = 148 then 8 else if i = 149 then 187 else if i = 150 then 4 else if i = 151 then 4 else if i = 152 then 64 else 16
def zcK (w : zE) (M : zM) (i : Nat) : Nat → va_E
  | 0 => .inr (0, [.ref (w.2.2 (i + 1)), .ref (w.2.2 (i + 15)), .ref (w.2.2 (i + 17)), .ref (w.2.2 (i + 19)), .int (M.1 i 4)])
  | 1 => .inr (1, [.ref (w.2.2 (i + 1)), .int (M.1 i 0), .ref (w.2.2 (i + 12)), .ref (w.2.2 (i + 13)), .int (M.1 i 1), .int (M.1 i 2), .int (M.1 i 3)])
  | 2 => .inr (2, [.int (M.1 i 0), .int (M.1 i 1), .int (M.1 i 2), .ref (w.2.2 (i + 1))])
  | 3 => .inr (3, [.ref (w.2.2 (i + 1)), .int (M.1 i 1), .int (M.1 i 2), .ref (w.2.2 (i + 2)), .ref (w.2.2 (i + 16))])
  | 4 => .inr (4, [.int (M.1 (zb i) (4 * zo i)), .int (M.1 (zb i) (4 * zo i + 1)), .int (M.1 (zb i) (4 * zo i + 2)), .int (M.1 (zb i) (4 * zo i + 3))])
  | 5 => .inr (5, [.int (M.1 i 0), .int (M.1 i 1), .int (M.1 i 2), .int (M.1 i 3), .int (M.1 i 4), .int (M.1 (i + 1) 0), .ref (w.2.2 (i + 1))])
  | 6 => .inr (6, [.ref (w.2.2 (i + 1)), .ref (w.2.2 (i + 15)), .ref (w.2.2 (i + 17)), .int (M.1 i 3)])
  | 7 => .inr (7, [.ref (w.2.2 (i + 1)), .ref (w.2.2 (i + 35)), .int (M.1 i 2), .ref (w.2.2 (i + 69)), .ref (w.2.2 (i + 87)), .ref (w.2.2 (i + 129))])
  | 8 => .inr (8, [.int (M.1 i 0), .int (M.1 i 1), .ref (w.2.2 (i + 1)), .ref (w.2.2 (i + 2)), .ref (w.2.2 (i + 3)), .int (M.1 i 5), .int (M.1 i 6), .int (M.1 i 7), .int (M.1 i 8), .ref (w.2.2 (i + 4)), .int (M.1 i 10), .int (M.1 i 11), .int (M.1 i 12), .int (M.1 i 13), .int (M.1 i 14), .int (M.1 i 15), .ref (w.2.2 (i + 5)), .ref (w.2.2 (i + 6)), .int (M.1 i 18), .ref (w.2.2 (i + 7)), .int (M.1 i 20), .ref (w.2.2 (i + 8)), .ref (w.2.2 (i + 9)), .ref (w.2.2 (i + 10)), .ref (w.2.2 (i + 11)), .int (M.1 i 25), .ref (w.2.2 (i + 12)), .ref (w.2.2 (i + 13)), .ref (w.2.2 (i + 14)), .ref (w.2.2 (i + 15))])
  | 9 => .inl (w.2.1 0, 120, .inl (M.1 i))
  | 10 => .inl (w.2.1 1, zn i, .inl (M.1 i))
  | 11 => .inl (w.2.1 1, 9, .inl (fun k => M.1 (i - 1) (5 + k)))
  | 12 => .inl (w.2.1 1, 9, .inl (fun k => M.1 i (2 * k)))
  | 13 => .inl (w.2.1 1, 9, .inl (fun k => M.1 (i - 1) (2 * k + 1)))
  | 14 => .inl (w.2.1 2, zn i, .inr (.inl (M.2 i)))
  | 15 => .inl (w.2.1 3, 4, .inr (.inr (.inr (.inr (fun k => some (w.2.2 (i + 1 + 2 * k)))))))
  | 16 => .inl (w.2.1 4, 10, .inr (.inr (.inr (.inr (fun k => some (w.2.2 (i + 1 + k)))))))
  | 17 => .inl (w.2.1 5, 11, .inr (.inr (.inr (.inr (fun k => some (w.2.2 (i + 1 + 2 * k)))))))
  | 18 => .inl (w.2.1 5, 8, .inr (.inr (.inr (.inr (fun k => some (w.2.2 (i + 1 + 2 * (M.1 i k).toNatClampNeg)))))))
  | _ => .inr (0, [])
def zc (w : zE) (M : zM) (i : Nat) : va_E := zcK w M i (zk i)
def zP (w : zE) (M : zM) (H : Heap) : Prop := ∀ i, i < 154 → va_at w.1 vwCl (w.2.2 i, zc w M i) H
def zJ (w : zE) : Prop := ∀ i j, i < 154 → j < 154 → w.2.2 i = w.2.2 j → i = j
def zA (w : zE) (q : Nat) : Prop := ∃ i, i < 154 ∧ q = w.2.2 i
def zT (w : zE) : List (ClassId × FieldType) := [(w.2.1 0, .char), (w.2.1 1, .int), (w.2.1 2, .long), (w.2.1 3, .object RX2), (w.2.1 4, .object RX4), (w.2.1 5, .object RX5)]
/-- a write: of an int, of a long -/
def zs (M : zM) (b o : Nat) (v : Int32) : zM := (va_up M.1 b (va_up (M.1 b) o v), M.2)
def zy (M : zM) (b o : Nat) (v : Int64) : zM := (M.1, va_up M.2 b (va_up (M.2 b) o v))
/-- which ints a cell holds -/
def zown (i b o : Nat) : Nat → Prop
  | 4 => b = zb i ∧ o / 4 = zo i
  | 5 => (b = i ∧ o < 5) ∨ b = i + 1
  | 11 => b = i - 1 ∧ 5 ≤ o
  | 12 => b = i ∧ o % 2 = 0
  | 13 => b = i - 1 ∧ o % 2 = 1
  | 14 => False
  | 15 => False
  | 16 => False
  | 17 => False
  | _ => b = i
def zowner (b o : Nat) : Nat := if zk b = 5 then (if o < 5 then b else b + 1) else if zk b = 11 then b - 1 else if zk b = 16 then b + 1 + o / 4 else if zk b = 12 then (if o % 2 = 0 then b else b + 1) else b
theorem zk_lt {i : Nat} (h : zk i ≠ 99) : i < 154 := by
  rcases Nat.lt_or_ge i 154 with q | q
  · exact q
  · exact absurd (by unfold zk; repeat (rw [if_neg (by omega)])) h
theorem zk_lay : ∀ i, i < 154 → (zk i = 4 → zk (zb i) = 16 ∧ zb i + 1 + zo i = i) ∧ (zk i = 5 → zk (i + 1) = 11) ∧ (zk i = 11 → 0 < i ∧ zk (i - 1) = 5) ∧ (zk i = 12 → zk (i + 1) = 13) ∧ (zk i = 13 → 0 < i ∧ zk (i - 1) = 12) ∧ zk i ≤ 18 := by decide +kernel
theorem zown_owner {i b o : Nat} (hi : i < 154) (h : zown i b o (zk i)) : zowner b o = i := by
  obtain ⟨h4, h5, h11, h12, h13, h18⟩ := zk_lay i hi
  generalize hk : zk i = k at *
  match k, h18 with
  | 0, _ => simp only [zown] at h; subst h; simp [zowner, hk]
  | 1, _ => simp only [zown] at h; subst h; simp [zowner, hk]
  | 2, _ => simp only [zown] at h; subst h; simp [zowner, hk]
  | 3, _ => simp only [zown] at h; subst h; simp [zowner, hk]
  | 4, _ =>
    simp only [zown] at h
    obtain ⟨rfl, h2⟩ := h
    obtain ⟨q1, q2⟩ := h4 rfl
    simp [zowner, q1, h2, q2]
  | 5, _ =>
    simp only [zown] at h
    rcases h with ⟨rfl, h2⟩ | rfl
    · simp [zowner, hk, h2]
    · simp [zowner, h5 rfl]
  | 6, _ => simp only [zown] at h; subst h; simp [zowner, hk]
  | 7, _ => simp only [zown] at h; subst h; simp [zowner, hk]
  | 8, _ => simp only [zown] at h; subst h; simp [zowner, hk]
  | 9, _ => simp only [zown] at h; subst h; simp [zowner, hk]
  | 10, _ => simp only [zown] at h; subst h; simp [zowner, hk]
  | 11, _ =>
    simp only [zown] at h
    obtain ⟨rfl, h2⟩ := h
    obtain ⟨q1, q2⟩ := h11 rfl
    have q3 : ¬ o < 5 := by omega
    simp only [zowner, q2, if_true, if_neg q3]
    omega
  | 12, _ =>
    simp only [zown] at h
    obtain ⟨rfl, h2⟩ := h
    simp [zowner, hk, h2]
  | 13, _ =>
    simp only [zown] at h
    obtain ⟨rfl, h2⟩ := h
    obtain ⟨q1, q2⟩ := h13 rfl
    have q3 : ¬ o % 2 = 0 := by omega
    simp [zowner, q2, q3]
    omega
  | 14, _ => exact absurd h (by simp [zown])
  | 15, _ => exact absurd h (by simp [zown])
  | 16, _ => exact absurd h (by simp [zown])
  | 17, _ => exact absurd h (by simp [zown])
  | 18, _ => simp only [zown] at h; subst h; simp [zowner, hk]
  | n + 19, q => omega
/-- a cell hangs on its own ints and longs alone -/
theorem zc_local {w : zE} {M M' : zM} {i : Nat} (h1 : ∀ b o, zown i b o (zk i) → M'.1 b o = M.1 b o) (h2 : M'.2 i = M.2 i) : zc w M' i = zc w M i := by
  unfold zc
  generalize zk i = k at *
  match k with
  | 0 => simp only [zcK, h1 _ _ (show zown i i 4 0 from rfl)]
  | 1 => simp only [zcK, h1 i _ (show zown i i _ 1 from rfl)]
  | 2 => simp only [zcK, h1 i _ (show zown i i _ 2 from rfl)]
  | 3 => simp only [zcK, h1 i _ (show zown i i _ 3 from rfl)]
  | 4 => simp only [zcK, h1 (zb i) (4 * zo i) ⟨rfl, by omega⟩, h1 (zb i) (4 * zo i + 1) ⟨rfl, by omega⟩, h1 (zb i) (4 * zo i + 2) ⟨rfl, by omega⟩, h1 (zb i) (4 * zo i + 3) ⟨rfl, by omega⟩]
  | 5 => simp only [zcK, h1 i 0 (Or.inl ⟨rfl, by omega⟩), h1 i 1 (Or.inl ⟨rfl, by omega⟩), h1 i 2 (Or.inl ⟨rfl, by omega⟩), h1 i 3 (Or.inl ⟨rfl, by omega⟩), h1 i 4 (Or.inl ⟨rfl, by omega⟩), h1 (i + 1) 0 (Or.inr rfl)]
  | 6 => simp only [zcK, h1 i _ (show zown i i _ 6 from rfl)]
  | 7 => simp only [zcK, h1 i _ (show zown i i _ 7 from rfl)]
  | 8 => simp only [zcK, h1 i _ (show zown i i _ 8 from rfl)]
  | 9 => have e : M'.1 i = M.1 i := funext fun k => h1 i k (show zown i i k 9 from rfl)
         simp only [zcK, e]
  | 10 => have e : M'.1 i = M.1 i := funext fun k => h1 i k (show zown i i k 10 from rfl)
          simp only [zcK, e]
  | 11 => have e : (fun k => M'.1 (i - 1) (5 + k)) = (fun k => M.1 (i - 1) (5 + k)) := funext fun k => h1 (i - 1) (5 + k) ⟨rfl, by omega⟩
          simp only [zcK, e]
  | 12 => have e : (fun k => M'.1 i (2 * k)) = (fun k => M.1 i (2 * k)) := funext fun k => h1 i (2 * k) ⟨rfl, by omega⟩
          simp only [zcK, e]
  | 13 => have e : (fun k => M'.1 (i - 1) (2 * k + 1)) = (fun k => M.1 (i - 1) (2 * k + 1)) := funext fun k => h1 (i - 1) (2 * k + 1) ⟨rfl, by omega⟩
          simp only [zcK, e]
  | 14 => simp only [zcK, h2]
  | 15 => simp only [zcK]
  | 16 => simp only [zcK]
  | 17 => simp only [zcK]
  | 18 => have e : M'.1 i = M.1 i := funext fun k => h1 i k (show zown i i k 18 from rfl)
          simp only [zcK, e]
  | n + 19 => simp only [zcK]
theorem zs_other {w : zE} {M : zM} {i b o : Nat} {v : Int32} (hi : i < 154) (ho : zown i b o (zk i)) : ∀ j, j < 154 → j ≠ i → zc w (zs M b o v) j = zc w M j := by
  intro j hj hne
  refine zc_local (fun b' o' h => ?_) rfl
  by_cases hb : b' = b
  · subst hb
    by_cases ho' : o' = o
    · subst ho'
      exact absurd ((zown_owner hj h).symm.trans (zown_owner hi ho)) hne
    · show va_up M.1 b' (va_up (M.1 b') o v) b' o' = _
      rw [va_up_self, va_up_ne _ _ ho']
  · show va_up M.1 b (va_up (M.1 b) o v) b' o' = _
    rw [va_up_ne _ _ hb]
theorem zy_other {w : zE} {M : zM} {i o : Nat} {v : Int64} : ∀ j, j < 154 → j ≠ i → zc w (zy M i o v) j = zc w M j := by
  intro j hj hne
  refine zc_local (fun b' o' h => rfl) ?_
  show va_up M.2 i _ j = _
  rw [va_up_ne _ _ hne]
/-- the cells as a list -/
def zL0 (w : zE) (M : zM) : va_W := (List.range 154).map (fun i => (w.2.2 i, zc w M i))
theorem zL0_at {w : zE} {M : zM} {i : Nat} (hi : i < 154) : (zL0 w M)[i]? = some (w.2.2 i, zc w M i) := by
  unfold zL0
  rw [List.getElem?_map, List.getElem?_range hi]
  rfl
theorem zL0_inv {w : zE} {M : zM} {k : Nat} {q : Nat × va_E} (h : (zL0 w M)[k]? = some q) : k < 154 ∧ q = (w.2.2 k, zc w M k) := by
  have hk : k < 154 := by
    have h1 := (List.getElem?_eq_some_iff.mp h).1
    unfold zL0 at h1
    rw [List.length_map, List.length_range] at h1
    exact h1
  rw [zL0_at hk] at h
  exact ⟨hk, (Option.some.inj h).symm⟩
theorem zP.P {w : zE} {M : zM} {H : Heap} (h : zP w M H) : va_P w.1 vwCl (zL0 w M) H := by
  intro k q hk
  obtain ⟨h1, rfl⟩ := zL0_inv hk
  exact h k h1
theorem zP.D {w : zE} {M : zM} {A : Nat → Prop} (hJ : zJ w) (hA : ∀ i, i < 154 → A (w.2.2 i)) : va_D A (zL0 w M) := by
  refine ⟨fun i j p q hi hj e => ?_, fun k q hk => ?_⟩
  · obtain ⟨h1, rfl⟩ := zL0_inv hi
    obtain ⟨h2, rfl⟩ := zL0_inv hj
    exact hJ i j h1 h2 e
  · obtain ⟨h1, rfl⟩ := zL0_inv hk
    exact hA k h1
theorem zP.put {w : zE} {M M' : zM} {H : Heap} {i : Nat} {e : va_E} (hi : i < 154) (h : va_P w.1 vwCl ((zL0 w M).set i (w.2.2 i, e)) H) (hs : zc w M' i = e) (ho : ∀ j, j < 154 → j ≠ i → zc w M' j = zc w M j) : zP w M' H := by
  intro j hj
  have hl : i < (zL0 w M).length := by unfold zL0; rw [List.length_map, List.length_range]; exact hi
  by_cases hji : j = i
  · subst hji
    rw [hs]
    exact h j _ (List.getElem?_set_self hl)
  · rw [ho j hj hji]
    exact h j _ (by rw [List.getElem?_set_ne (Ne.symm hji)]; exact zL0_at hj)
