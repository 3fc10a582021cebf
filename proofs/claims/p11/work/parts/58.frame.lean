/-- the reference's frames: behind a foretelling; within one -/
def zgf (o : Nat) (M M' : zM) : Prop := M'.2 = M.2 ∧ (∀ b, b ≠ o → b ≠ o + 8 → b ≠ o + 9 → b ≠ o + 10 → M'.1 b = M.1 b) ∧ (∀ k, k ≠ 7 → k ≠ 8 → k ≠ 18 → M'.1 o k = M.1 o k) ∧ M'.1 o 8 = 0
def zgx (o : Nat) (M M' : zM) : Prop := M'.2 = M.2 ∧ (∀ b, b ≠ o → b ≠ o + 3 → b ≠ o + 8 → b ≠ o + 9 → b ≠ o + 10 → M'.1 b = M.1 b) ∧ (∀ k, k ≠ 7 → k ≠ 8 → k ≠ 18 → M'.1 o k = M.1 o k)
theorem zgf.rf {o : Nat} {M : zM} (h : M.1 o 8 = 0) : zgf o M M := ⟨rfl, fun _ _ _ _ _ => rfl, fun _ _ _ _ => rfl, h⟩
theorem zgf.x {o : Nat} {M M' : zM} (h : zgf o M M') : zgx o M M' := ⟨h.1, fun b h1 _ h2 h3 h4 => h.2.1 b h1 h2 h3 h4, h.2.2.1⟩
theorem zgx.rf {o : Nat} {M : zM} : zgx o M M := ⟨rfl, fun _ _ _ _ _ _ => rfl, fun _ _ _ _ => rfl⟩
theorem zgf.tr {o : Nat} {M M1 M2 : zM} (h : zgf o M M1) (k : zgf o M1 M2) : zgf o M M2 := ⟨k.1.trans h.1, fun b a1 a2 a3 a4 => (k.2.1 b a1 a2 a3 a4).trans (h.2.1 b a1 a2 a3 a4), fun q a1 a2 a3 => (k.2.2.1 q a1 a2 a3).trans (h.2.2.1 q a1 a2 a3), k.2.2.2⟩
theorem zgx.a {o b : Nat} {M M' : zM} {f : zF1} (h : zgx o M M') (hb : b = o + 3 ∨ b = o + 8 ∨ b = o + 9 ∨ b = o + 10) : zgx o M (za M' b f) := ⟨h.1, fun c a1 a2 a3 a4 a5 => (za_off _ (by omega)).trans (h.2.1 c a1 a2 a3 a4 a5), fun k a1 a2 a3 => (congrFun (za_off M' (c := o) (by omega)) k).trans (h.2.2 k a1 a2 a3)⟩
theorem zgx.s {o q : Nat} {M M' : zM} {v : Int32} (h : zgx o M M') (hq : q = 7 ∨ q = 8 ∨ q = 18) : zgx o M (zs M' o q v) := ⟨h.1, fun c a1 a2 a3 a4 a5 => (zs_off _ a1).trans (h.2.1 c a1 a2 a3 a4 a5), fun k a1 a2 a3 => by
  rw [zs_at, va_up_ne _ _ (by omega)]
  exact h.2.2 k a1 a2 a3⟩
theorem zgx.r {o : Nat} {M M' : zM} {T : zF1} {rf : Int32} (h : zgx o M M') : zgx o M (zr M' o T rf) := by
  refine ⟨h.1, fun c a1 a2 a3 a4 a5 => (zr_off a1 a2).trans (h.2.1 c a1 a2 a3 a4 a5), fun k a1 a2 a3 => ?_⟩
  rw [zr_of _ _ _ _ a3]
  exact h.2.2 k a1 a2 a3
theorem zgf.back {o : Nat} {M M' : zM} (h : zgx o M M') (hT : M'.1 (o + 8) = M.1 (o + 3)) : zgf o M (zs (zs (za M' (o + 3) (M'.1 (o + 8))) o 7 (-4)) o 8 0) := by
  have h2 := ((h.a (f := M'.1 (o + 8)) (Or.inl rfl)).s (v := -4) (Or.inl rfl)).s (v := 0) (Or.inr (Or.inl rfl))
  refine ⟨h2.1, fun b a1 a3 a4 a5 => ?_, h2.2.2, by rw [zs_at, va_up_self]⟩
  by_cases e : b = o + 3
  · rw [e, zs_off _ (by omega), zs_off _ (by omega), za_at, hT]
  · exact h2.2.1 b a1 e a3 a4 a5
/-- what holds of the reference between calls, as far as foretellings need it -/
def rOK (M : zM) (o nt np a : Nat) : Prop := M.1 o 0 = nI nt ∧ nt ≤ 10 ∧ M.1 o 1 = nI np ∧ np ≤ 8 ∧ kdOK (M.1 (o + 1)) ∧ tv9 nt (M.1 (o + 3)) ∧ M.1 (o + 3) 3 = nI a ∧ a ≤ 12 ∧ M.1 o 8 = 0
theorem rOK.fr {M M' : zM} {o nt np a : Nat} (h : rOK M o nt np a) (f : zgf o M M') : rOK M' o nt np a := by
  unfold rOK at *
  rw [f.2.2.1 0 (by decide) (by decide) (by decide), f.2.2.1 1 (by decide) (by decide) (by decide), f.2.1 (o + 1) (by omega) (by omega) (by omega) (by omega), f.2.1 (o + 3) (by omega) (by omega) (by omega) (by omega), f.2.2.2]
  exact ⟨h.1, h.2.1, h.2.2.1, h.2.2.2.1, h.2.2.2.2.1, h.2.2.2.2.2.1, h.2.2.2.2.2.2.1, h.2.2.2.2.2.2.2.1, rfl⟩
theorem rbM_x {M M' : zM} {o : Nat} (h : zgx o M M') : rbM (M'.1 o) = rbM (M.1 o) := funext fun k => by
  unfold rbM
  rw [h.2.2 0 (by decide) (by decide) (by decide), h.2.2 1 (by decide) (by decide) (by decide), h.2.2 5 (by decide) (by decide) (by decide), h.2.2 6 (by decide) (by decide) (by decide)]
theorem coin_0 (x : Int32) : coinF 0 x = 1 := by
  unfold coinF
  rw [Int32.zero_shiftRight, Int32.zero_and]
  rfl
theorem moreF_no (rb th : zF1) (c : Int32) {s : zF1 × Int32} {a : Nat} (h : s.1 3 = nI a) (ha : a ≤ 12) : moreF rb th (-4) c s = s := by
  unfold moreF
  refine if_neg (fun q => ?_)
  have q1 := q.1
  rw [h] at q1
  exact (by decide : ∀ a, a < 13 → ¬ ((-4 : Int32) = nI a)) a (by omega) q1
theorem peo_3 (rb th pe : zF1) (c : Int32) : ∀ (k : Nat) (s : zF1 × Int32), (peoF rb th pe c k s).1 3 = s.1 3 := by
  intro k
  induction k with
  | zero => intro s; rfl
  | succ k ih =>
    intro s
    show (stepF rb th pe c k (peoF rb th pe c k s)).1 3 = s.1 3
    rw [← ih s]
    unfold stepF
    split
    · exact offT_3 _ _ _ _ _ _
    · rfl
theorem passM_F (rb th pe : zF1) (np : Nat) (c : Int32) {s : zF1 × Int32} {a : Nat} (h : s.1 3 = nI a) (ha : a ≤ 12) : passM rb th pe np (-4) c s = passF rb th pe np c s := by
  unfold passM
  rw [moreF_no _ _ _ (a := a) (by rw [peo_3]; exact (feels_3 _ _ _ _).trans h) ha]
  rfl
theorem wellF_3 (rb th : zF1) (T : zF1) : wellF rb th T 3 = T 3 := by
  unfold wellF
  split
  · rw [va_up_ne _ _ (by decide), va_up_ne _ _ (by decide)]
  · rfl
theorem passF_3 (rb th pe : zF1) (np : Nat) (c : Int32) (s : zF1 × Int32) : (passF rb th pe np c s).1 3 = s.1 3 + 1 := by
  show va_up (wellF rb th (peoF rb th pe c np (feelsF rb th c s.1, s.2)).1) 3 (wellF rb th (peoF rb th pe c np (feelsF rb th c s.1, s.2)).1 3 + 1) 3 = s.1 3 + 1
  rw [va_up_self, wellF_3, peo_3]
  exact congrArg (· + 1) (feels_3 _ _ _ _)
theorem homeM_F (rb th pe : zF1) (np : Nat) : ∀ (k : Nat) {s : zF1 × Int32} {a : Nat}, s.1 3 = nI a → a + k ≤ 12 → homeM rb th pe np (-4) 0 k s = homeF rb th pe np k s := by
  intro k
  induction k with
  | zero => intro s a h ha; rfl
  | succ k ih =>
    intro s a h ha
    show homeM rb th pe np (-4) 0 k (passM rb th pe np (-4) (coinF 0 (s.1 3)) s) = homeF rb th pe np k (passF rb th pe np 1 s)
    rw [coin_0, passM_F _ _ _ _ _ h (by omega)]
    exact ih (a := a + 1) (by rw [passF_3, h, nI_1]) (by omega)
/-- his way home, of the reference -/
def hmR (M : zM) (o np a : Nat) : zF1 × Int32 := homeF (rbM (M.1 o)) (M.1 (o + 1)) (M.1 (o + 2)) np (12 - a) (M.1 (o + 3), -4)
theorem hm_tv {nt : Nat} (rb th pe : zF1) {np : Nat} (hp : np ≤ 9) {s : zF1 × Int32} {k a : Nat} (h : s.1 3 = nI a) (ha : a + k ≤ 12) (tv : tv9 nt s.1) : tv9 nt (homeF rb th pe np k s).1 := by
  rw [← homeM_F rb th pe np k h ha]
  exact home_ok rb th pe (-4) 0 hp k tv
