/-! class and reference say the same: SX A B: the class's cells of A, the reference's of B -/
def rowT (U : zF1) (j : Nat) : zF1 := fun q => U (14 * j + q)
def tOK (nt np : Nat) (T : zF1) : Prop := tv9 nt T ∧ uq np T ∧ nz T ∧ ∃ b, b ≤ 12 ∧ T 3 = nI b
def WR (A : zM) (n : Nat) (R0 R1 R5 R6 R20 : Int32) (th pe T U : zF1) (nt np a u : Nat) : Prop :=
  (nt ≤ 10 ∧ np ≤ 8 ∧ a ≤ 12 ∧ u ≤ 8)
  ∧ (A.1 (n + 1) 0 = nI nt ∧ A.1 (n + 1) 1 = nI np ∧ A.1 (n + 1) 2 = R5 ∧ A.1 (n + 1) 3 = R6 ∧ A.1 n 3 = nI u)
  ∧ (R0 = nI nt ∧ R1 = nI np ∧ R20 = nI u)
  ∧ (thE nt (A.1 (n + 2)) th ∧ peE np (A.1 (n + 13)) pe)
  ∧ (∃ d, trx np d s5 (A.1 (n + 15)) T)
  ∧ pmF (A.1 (n + 17))
  ∧ (∀ j, j < u → ∃ d, trx np d s5 (A.1 (n + 18 + 2 * (A.1 (n + 17) j).toNatClampNeg)) (rowT U j))
  ∧ (kdOK th ∧ wOK nt th ∧ mOK np pe)
  ∧ (tOK nt np T ∧ T 3 = nI a)
  ∧ (∀ j, j < u → tOK nt np (rowT U j))
def WN (A B : zM) (nt np a u : Nat) : Prop := WR A 1 (B.1 138 0) (B.1 138 1) (B.1 138 5) (B.1 138 6) (B.1 138 20) (B.1 139) (B.1 140) (B.1 141) (B.1 145) nt np a u
def WK (A B : zM) (nt np a u : Nat) : Prop := WR A 35 (B.1 149 0) (B.1 149 1) (B.1 149 2) (B.1 149 3) (B.1 149 4) (fun q => B.1 149 (5 + q)) (fun q => B.1 149 (45 + q)) (fun q => B.1 149 (61 + q)) (fun q => B.1 149 (75 + q)) nt np a u
def KR (A B : zM) : Prop := pmF (A.1 52) ∧ A.1 0 2 = B.1 138 25 ∧ (¬ A.1 0 2 = 0 → ∃ nt np a u, WK A B nt np a u)
def TP (A B : zM) (len : Nat) : Prop := A.1 69 1 = nI len ∧ B.1 138 10 = nI len ∧ len ≤ 120 ∧ A.1 70 = B.1 142 ∧ ltOK (A.1 70) len
def SH1 (A B : zM) (q : Nat) : Prop := (A.1 (130 + 2 * q) 0 = 0 ∧ B.1 150 q = -1 ∨ A.1 (130 + 2 * q) 0 = 1 ∧ ∃ l, l < 4 ∧ A.1 (130 + 2 * q) 1 = nI l ∧ B.1 150 q = nI l) ∧ (∃ L, L ≤ 16 ∧ A.1 (130 + 2 * q) 2 = nI L ∧ B.1 151 q = nI L) ∧ ∀ i, i < 16 → A.2 (130 + 2 * q + 1) i = B.2 152 (16 * q + i)
def SH (A B : zM) : Prop := ∀ q, q < 4 → SH1 A B q
def SX (A B : zM) (nt np a u len : Nat) : Prop := WN A B nt np a u ∧ B.1 138 8 = 0 ∧ KR A B ∧ TP A B len ∧ SH A B
def Sim (M : zM) : Prop := ∃ nt np a u len, SX M M nt np a u len
theorem SX.sim {M : zM} {nt np a u len : Nat} (h : SX M M nt np a u len) : Sim M := ⟨nt, np, a, u, len, h⟩
theorem pm_n {f : zF1} (h : pmF f) {k : Nat} (hk : k < 8) : (f k).toNatClampNeg < 8 := by
  obtain ⟨j, h1, h2⟩ := h.1 k hk
  rw [h2, nI_clamp (by omega)]
  exact h1
theorem WR.A {A A' : zM} {n : Nat} {R0 R1 R5 R6 R20 : Int32} {th pe T U : zF1} {nt np a u : Nat} (h : WR A n R0 R1 R5 R6 R20 th pe T U nt np a u) (e : ∀ b, n ≤ b → b < n + 34 → A'.1 b = A.1 b) : WR A' n R0 R1 R5 R6 R20 th pe T U nt np a u := by
  obtain ⟨h1, h2, h3, h4, h5, h6, h7, h8, h9, h10⟩ := h
  have e17 := e (n + 17) (by omega) (by omega)
  refine ⟨h1, ?_, h3, ?_, ?_, ?_, fun j hj => ?_, h8, h9, h10⟩
  · rw [e (n + 1) (by omega) (by omega), e n (by omega) (by omega)]; exact h2
  · rw [e (n + 2) (by omega) (by omega), e (n + 13) (by omega) (by omega)]; exact h4
  · rw [e (n + 15) (by omega) (by omega)]; exact h5
  · rw [e17]; exact h6
  · have := pm_n h6 (k := j) (by omega)
    rw [e17, e _ (by omega) (by omega)]
    exact h7 j hj
theorem SX.world {M M3 : zM} {nt np a u nt' np' a' u' len : Nat} (S : SX M M nt np a u len) (eA : ∀ b, (b = 0 ∨ 35 ≤ b) → b < 138 → (b < 87 ∨ 129 ≤ b) → M3.1 b = M.1 b) (eB : ∀ b, (b = 142 ∨ b = 149 ∨ b = 150 ∨ b = 151) → M3.1 b = M.1 b) (e8 : ∀ k, (k = 10 ∨ k = 25) → M3.1 138 k = M.1 138 k) (e88 : M3.1 138 8 = 0) (e2 : M3.2 = M.2) (W : WN M3 M3 nt' np' a' u') : SX M3 M3 nt' np' a' u' len := by
  obtain ⟨w, ts, ⟨k1, k2, k3⟩, ⟨t1, t2, t3, t4, t5⟩, sh⟩ := S
  refine ⟨W, e88, ⟨?_, ?_, fun hz => ?_⟩, ⟨?_, ?_, t3, ?_, ?_⟩, fun q hq => ?_⟩
  · rw [eA 52 (by omega) (by omega) (by omega)]; exact k1
  · rw [eA 0 (by omega) (by omega) (by omega), e8 25 (by omega)]; exact k2
  · rw [eA 0 (by omega) (by omega) (by omega)] at hz
    obtain ⟨a1, a2, a3, a4, K⟩ := k3 hz
    refine ⟨a1, a2, a3, a4, ?_⟩
    unfold WK
    rw [eB 149 (by omega)]
    exact WR.A K (fun b h1 h2 => eA b (by omega) (by omega) (by omega))
  · rw [eA 69 (by omega) (by omega) (by omega)]; exact t1
  · rw [e8 10 (by omega)]; exact t2
  · rw [eA 70 (by omega) (by omega) (by omega), eB 142 (by omega)]; exact t4
  · rw [eA 70 (by omega) (by omega) (by omega)]; exact t5
  · unfold SH1
    rw [eA (130 + 2 * q) (by omega) (by omega) (by omega), eB 150 (by omega), eB 151 (by omega), e2]
    exact sh q hq
theorem SX.sheets {M M3 : zM} {nt np a u len : Nat} (S : SX M M nt np a u len) (eA : ∀ b, b < 87 → M3.1 b = M.1 b) (eB : ∀ b, (b = 139 ∨ b = 140 ∨ b = 141 ∨ b = 142 ∨ b = 145 ∨ b = 149) → M3.1 b = M.1 b) (e8 : ∀ k, k ≠ 7 → k ≠ 8 → k ≠ 18 → M3.1 138 k = M.1 138 k) (e88 : M3.1 138 8 = 0) (H : SH M3 M3) : SX M3 M3 nt np a u len := by
  obtain ⟨w, ts, ⟨k1, k2, k3⟩, ⟨t1, t2, t3, t4, t5⟩, sh⟩ := S
  refine ⟨?_, e88, ⟨?_, ?_, fun hz => ?_⟩, ⟨?_, ?_, t3, ?_, ?_⟩, H⟩
  · unfold WN
    rw [e8 0 (by omega) (by omega) (by omega), e8 1 (by omega) (by omega) (by omega), e8 5 (by omega) (by omega) (by omega), e8 6 (by omega) (by omega) (by omega), e8 20 (by omega) (by omega) (by omega), eB 139 (by omega), eB 140 (by omega), eB 141 (by omega), eB 145 (by omega)]
    exact WR.A w (fun b h1 h2 => eA b (by omega))
  · rw [eA 52 (by omega)]; exact k1
  · rw [eA 0 (by omega), e8 25 (by omega) (by omega) (by omega)]; exact k2
  · rw [eA 0 (by omega)] at hz
    obtain ⟨a1, a2, a3, a4, K⟩ := k3 hz
    refine ⟨a1, a2, a3, a4, ?_⟩
    unfold WK
    rw [eB 149 (by omega)]
    exact WR.A K (fun b h1 h2 => eA b (by omega))
  · rw [eA 69 (by omega)]; exact t1
  · rw [e8 10 (by omega) (by omega) (by omega)]; exact t2
  · rw [eA 70 (by omega), eB 142 (by omega)]; exact t4
  · rw [eA 70 (by omega)]; exact t5
/-- the reference's part hangs on its own cells alone -/
theorem SX.B {A B B' : zM} {nt np a u len : Nat} (S : SX A B nt np a u len) (e : ∀ b, 138 ≤ b → B'.1 b = B.1 b) (e2 : B'.2 152 = B.2 152) : SX A B' nt np a u len := by
  obtain ⟨w, ts, ⟨k1, k2, k3⟩, ⟨t1, t2, t3, t4, t5⟩, sh⟩ := S
  refine ⟨?_, by rw [e 138 (by omega)]; exact ts, ⟨k1, by rw [e 138 (by omega)]; exact k2, fun hz => ?_⟩, ⟨t1, by rw [e 138 (by omega)]; exact t2, t3, by rw [e 142 (by omega)]; exact t4, t5⟩, fun q hq => ?_⟩
  · unfold WN
    rw [e 138 (by omega), e 139 (by omega), e 140 (by omega), e 141 (by omega), e 145 (by omega)]
    exact w
  · obtain ⟨a1, a2, a3, a4, K⟩ := k3 hz
    refine ⟨a1, a2, a3, a4, ?_⟩
    unfold WK
    rw [e 149 (by omega)]
    exact K
  · unfold SH1
    rw [e 150 (by omega), e 151 (by omega), e2]
    exact sh q hq
theorem SX.rok {A B : zM} {nt np a u len : Nat} (S : SX A B nt np a u len) : rOK B 138 nt np a := by
  obtain ⟨⟨⟨b1, b2, b3, b4⟩, _, ⟨r1, r2, r3⟩, _, _, _, _, ⟨kd, _, _⟩, ⟨tk, ta⟩, _⟩, ts, _⟩ := S
  exact ⟨r1, b1, r2, b2, kd, tk.1, ta, b3, ts⟩
theorem SX.nok {A B : zM} {nt np a u len : Nat} (S : SX A B nt np a u len) : nowOK A 1 np a := by
  obtain ⟨⟨⟨b1, b2, b3, b4⟩, ⟨c1, c2, c3, c4, c5⟩, _, _, ⟨d, t⟩, _, _, _, ⟨tk, ta⟩, _⟩, _⟩ := S
  refine ⟨?_, c2, b2, ?_, b3⟩
  · show A.1 (1 + 1) 0 ≤ 10
    rw [c1]
    exact nI_le (b := 10) b1 (by decide)
  · exact t.2.2.2.1.trans ta
theorem SX.nt10 {A B : zM} {nt np a u len : Nat} (S : SX A B nt np a u len) : A.1 2 0 ≤ 10 := S.nok.1
theorem SX.rb {A B : zM} {nt np a u len : Nat} (S : SX A B nt np a u len) : rbE nt (A.1 2) (rbM (B.1 138)) := by
  obtain ⟨⟨_, ⟨c1, c2, c3, c4, c5⟩, ⟨r1, r2, r3⟩, _⟩, _⟩ := S
  exact ⟨c1, r1, c3, c4⟩
theorem SX.th {A B : zM} {nt np a u len : Nat} (S : SX A B nt np a u len) : thE nt (A.1 3) (B.1 139) := S.1.2.2.2.1.1
theorem SX.pe {A B : zM} {nt np a u len : Nat} (S : SX A B nt np a u len) : peE np (A.1 14) (B.1 140) := S.1.2.2.2.1.2
theorem SX.tr {A B : zM} {nt np a u len : Nat} (S : SX A B nt np a u len) : ∃ d, trx np d s5 (A.1 16) (B.1 141) := S.1.2.2.2.2.1
theorem SX.tk {A B : zM} {nt np a u len : Nat} (S : SX A B nt np a u len) : tOK nt np (B.1 141) := S.1.2.2.2.2.2.2.2.2.1.1
theorem SX.ta {A B : zM} {nt np a u len : Nat} (S : SX A B nt np a u len) : B.1 141 3 = nI a := S.1.2.2.2.2.2.2.2.2.1.2
theorem SX.kd {A B : zM} {nt np a u len : Nat} (S : SX A B nt np a u len) : kdOK (B.1 139) ∧ wOK nt (B.1 139) ∧ mOK np (B.1 140) := S.1.2.2.2.2.2.2.2.1
theorem SX.bd {A B : zM} {nt np a u len : Nat} (S : SX A B nt np a u len) : nt ≤ 10 ∧ np ≤ 8 ∧ a ≤ 12 ∧ u ≤ 8 := S.1.1
theorem SX.cf {A B : zM} {nt np a u len : Nat} (S : SX A B nt np a u len) : A.1 2 0 = nI nt ∧ A.1 2 1 = nI np ∧ A.1 2 2 = B.1 138 5 ∧ A.1 2 3 = B.1 138 6 ∧ A.1 1 3 = nI u := S.1.2.1
theorem SX.rf {A B : zM} {nt np a u len : Nat} (S : SX A B nt np a u len) : B.1 138 0 = nI nt ∧ B.1 138 1 = nI np ∧ B.1 138 20 = nI u := S.1.2.2.1
theorem SX.pm {A B : zM} {nt np a u len : Nat} (S : SX A B nt np a u len) : pmF (A.1 18) := S.1.2.2.2.2.2.1
theorem SX.sz {A B : zM} {nt np a u len : Nat} (S : SX A B nt np a u len) : szOK (B.1 151) := fun q hq => by
  obtain ⟨_, ⟨L, h1, h2, h3⟩, _⟩ := S.2.2.2.2 q hq
  exact ⟨L, h1, h3⟩
theorem SX.vx {A B : zM} {nt np a u len : Nat} (S : SX A B nt np a u len) : A.1 16 0 = -4 ∨ 0 ≤ A.1 16 0 ∧ A.1 16 0 < 10 := by
  obtain ⟨d, t⟩ := S.tr
  rw [t.1]
  have b := S.bd.1
  rcases S.tk.1.1 with h | ⟨j, hj, h⟩
  · exact Or.inl h
  · rw [h]; exact Or.inr ⟨nI_pos' (by omega), nI_lt (b := 10) (by omega) (by decide)⟩
/-- what is foretold changes nothing that shows -/
theorem SX.fore {M M2 M3 : zM} {nt np a u len : Nat} (S : SX M M nt np a u len) (f : zfr M M2) (g : zgf 138 M2 M3) : SX M3 M3 nt np a u len := by
  obtain ⟨f1, f2⟩ := f
  obtain ⟨g1, g2, g3, g4⟩ := g
  have e : ∀ b, b ≠ 138 → b ≠ 146 → b ≠ 147 → b ≠ 148 → (b < 87 ∨ 129 ≤ b) → M3.1 b = M.1 b := fun b h1 h2 h3 h4 h5 => (g2 b h1 h2 h3 h4).trans (f2 b h5)
  have e2 : M3.2 = M.2 := g1.trans f1
  refine S.sheets (fun b hb => e b (by omega) (by omega) (by omega) (by omega) (by omega)) (fun b hb => e b (by omega) (by omega) (by omega) (by omega) (by omega)) (fun k h1 h2 h3 => (g3 k h1 h2 h3).trans (by rw [f2 138 (by omega)])) g4 (fun q hq => ?_)
  unfold SH1
  rw [e (130 + 2 * q) (by omega) (by omega) (by omega) (by omega) (by omega), e 150 (by omega) (by omega) (by omega) (by omega) (by omega), e 151 (by omega) (by omega) (by omega) (by omega) (by omega), e2]
  exact S.2.2.2.2 q hq
theorem SX.zfr {M M2 : zM} {nt np a u len : Nat} (S : SX M M nt np a u len) (f : zfr M M2) : SX M M2 nt np a u len := S.B (fun b hb => f.2 b (by omega)) (by rw [f.1])
