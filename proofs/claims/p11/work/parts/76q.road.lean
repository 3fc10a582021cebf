/-! the road, in pairs -/
def P7b_road (M : zM) (len : Nat) (r : Int32) (M2 : zM) : Prop := ((roadF (M.1 70) len (M.1 3) (M.1 14) (tT0 (M.1 16))).1 = 0 ∧ r = -20 - nI (roadF (M.1 70) len (M.1 3) (M.1 14) (tT0 (M.1 16))).2.1 ∧ ztg M M2 ∧ M2.1 69 1 = 0) ∨ (¬ (roadF (M.1 70) len (M.1 3) (M.1 14) (tT0 (M.1 16))).1 = 0 ∧ ∃ (M1 : zM) (S : zRd), S = (roadF (M.1 70) len (M.1 3) (M.1 14) (tT0 (M.1 16))).2.2 ∧ r = nI S.1 ∧ ztg M M1 ∧ M1.1 69 1 = 0 ∧ M2 = zs (za (zrd M1 2 (va_up (va_up (M.1 2) 0 (nI S.1)) 1 (nI S.2.2.1)) S.2.1 S.2.2.2.1) 16 S.2.2.2.2) 1 3 0)
def Q7_road (M : zM) (r : Int32) (M2 : zM) : Prop := ∃ nt np ah u len, SX M M nt np ah u len ∧ P7b_road M len r M2
theorem q7_road {l : Launch} {w : zE} (J : zJ w) {M : zM} (S : Sim M) : zCi l w yX7_road cX7_road 2 (some .int) 7 [.ref (w.2.2 0)] M (Q7_road M) := by
  obtain ⟨nt, np, ah, u, len, S⟩ := S
  have h : zCi l w yX7_road cX7_road 2 (some .int) 7 [.ref (w.2.2 0)] M (P7b_road M len) := e_X7_road J (o := 0) (by decide) rfl S.2.2.2.1.1 S.2.2.2.1.2.2.1 S.2.2.2.1.2.2.2.2
  exact zCi_post (fun r M2 h => ⟨nt, np, ah, u, len, S, h⟩) h
theorem tT0_0 (T : zF1) : tT0 T 0 = -4 ∧ tT0 T 1 = 0 ∧ tT0 T 2 = 0 ∧ tT0 T 3 = 0 ∧ tT0 T 4 = T 4 := by
  unfold tT0
  refine ⟨?_, ?_, ?_, ?_, ?_⟩ <;> simp +decide only [va_g, if_true, if_false]
theorem road_fail {M M2 M3 : zM} {nt np ah u len : Nat} (S : SX M M nt np ah u len) (f : ztg M M2) (f69 : M2.1 69 1 = 0) (g : RF M2 M3) : Sim M3 := by
  obtain ⟨f1, f2⟩ := f
  obtain ⟨g1, g2, g3, g4⟩ := g
  have e : ∀ b, b ≠ 138 → b ≠ 143 → b ≠ 144 → (b < 69 ∨ b = 70 ∨ 87 ≤ b) → M3.1 b = M.1 b := fun b h1 h2 h3 h4 => (g2 b h1 h2 h3).trans (f2 b h4)
  have e8 : ∀ k, (k < 10 ∨ 15 < k) → M3.1 138 k = M.1 138 k := fun k hk => (g3 k hk).trans (by rw [f2 138 (by omega)])
  have e2 : M3.2 = M.2 := g1.trans f1
  have e69 : M3.1 69 1 = 0 := by rw [g2 69 (by decide) (by decide) (by decide)]; exact f69
  obtain ⟨w, ts, ⟨k1, k2, k3⟩, ⟨t1, t2, t3, t4, t5⟩, sh⟩ := S
  refine ⟨nt, np, ah, u, 0, ?_, by rw [e8 8 (by omega)]; exact ts, ⟨by rw [e 52 (by decide) (by decide) (by decide) (by decide)]; exact k1, by rw [e 0 (by decide) (by decide) (by decide) (by decide), e8 25 (by omega)]; exact k2, fun hz => ?_⟩, ⟨e69, g4, by omega, by rw [e 70 (by decide) (by decide) (by decide) (by decide), e 142 (by decide) (by decide) (by decide) (by decide)]; exact t4, fun q hq => absurd hq (by omega)⟩, fun q hq => ?_⟩
  · unfold WN
    rw [e8 0 (by omega), e8 1 (by omega), e8 5 (by omega), e8 6 (by omega), e8 20 (by omega), e 139 (by decide) (by decide) (by decide) (by decide), e 140 (by decide) (by decide) (by decide) (by decide), e 141 (by decide) (by decide) (by decide) (by decide), e 145 (by decide) (by decide) (by decide) (by decide)]
    exact WR.A w (fun b h1 h2 => e b (by omega) (by omega) (by omega) (by omega))
  · rw [e 0 (by decide) (by decide) (by decide) (by decide)] at hz
    obtain ⟨a1, a2, a3, a4, K⟩ := k3 hz
    refine ⟨a1, a2, a3, a4, ?_⟩
    unfold WK
    rw [e 149 (by decide) (by decide) (by decide) (by decide)]
    exact WR.A K (fun b h1 h2 => e b (by omega) (by omega) (by omega) (by omega))
  · unfold SH1
    rw [e (130 + 2 * q) (by omega) (by omega) (by omega) (by omega), e 150 (by decide) (by decide) (by decide) (by decide), e 151 (by decide) (by decide) (by decide) (by decide), e2]
    exact sh q hq
theorem road_ok {M M1 M3 : zM} {nt np ah u len : Nat} {SA SB : zRd} (S : SX M M nt np ah u len) (f : ztg M M1) (f69 : M1.1 69 1 = 0) (rr : rdR (tT0 (M.1 16)) SA SB) (g : RD (zs (za (zrd M1 2 (va_up (va_up (M.1 2) 0 (nI SA.1)) 1 (nI SA.2.2.1)) SA.2.1 SA.2.2.2.1) 16 SA.2.2.2.2) 1 3 0) M3 SB) : Sim M3 := by
  obtain ⟨f1, f2⟩ := f
  obtain ⟨⟨r1, r2, r3, r4⟩, ⟨r5, r6⟩, ⟨r7, r8, r9⟩, ⟨r10, r11, r12, r13⟩, r14⟩ := rr
  obtain ⟨g1, g2, ⟨g3, g4, g5, g6⟩, g7, g8, g9, ⟨g10, g11, g12, g13⟩⟩ := g
  have n : ∀ b, b ≠ 1 → b ≠ 2 → b ≠ 3 → b ≠ 14 → b ≠ 16 → (zs (za (zrd M1 2 (va_up (va_up (M.1 2) 0 (nI SA.1)) 1 (nI SA.2.2.1)) SA.2.1 SA.2.2.2.1) 16 SA.2.2.2.2) 1 3 0).1 b = M1.1 b := fun b h1 h2 h3 h4 h5 => by
    unfold zrd
    rw [zs_off _ h1, za_off _ h5, za_off _ h2, za_off _ h4, za_off _ h3]
  have n1 : (zs (za (zrd M1 2 (va_up (va_up (M.1 2) 0 (nI SA.1)) 1 (nI SA.2.2.1)) SA.2.1 SA.2.2.2.1) 16 SA.2.2.2.2) 1 3 0).1 1 3 = 0 := by rw [zs_at, va_up_self]
  have n2 : (zs (za (zrd M1 2 (va_up (va_up (M.1 2) 0 (nI SA.1)) 1 (nI SA.2.2.1)) SA.2.1 SA.2.2.2.1) 16 SA.2.2.2.2) 1 3 0).1 2 = va_up (va_up (M.1 2) 0 (nI SA.1)) 1 (nI SA.2.2.1) := by
    unfold zrd
    rw [zs_off _ (by decide), za_off _ (by decide), za_at]
  have n3 : (zs (za (zrd M1 2 (va_up (va_up (M.1 2) 0 (nI SA.1)) 1 (nI SA.2.2.1)) SA.2.1 SA.2.2.2.1) 16 SA.2.2.2.2) 1 3 0).1 3 = SA.2.1 := by
    unfold zrd
    rw [zs_off _ (by decide), za_off _ (by decide), za_off _ (by decide), za_off _ (by decide)]
    exact za_at _ _ _
  have n14 : (zs (za (zrd M1 2 (va_up (va_up (M.1 2) 0 (nI SA.1)) 1 (nI SA.2.2.1)) SA.2.1 SA.2.2.2.1) 16 SA.2.2.2.2) 1 3 0).1 14 = SA.2.2.2.1 := by
    unfold zrd
    rw [zs_off _ (by decide), za_off _ (by decide), za_off _ (by decide)]
    exact za_at _ _ _
  have n16 : (zs (za (zrd M1 2 (va_up (va_up (M.1 2) 0 (nI SA.1)) 1 (nI SA.2.2.1)) SA.2.1 SA.2.2.2.1) 16 SA.2.2.2.2) 1 3 0).1 16 = SA.2.2.2.2 := by rw [zs_off _ (by decide), za_at]
  have n22 : (zs (za (zrd M1 2 (va_up (va_up (M.1 2) 0 (nI SA.1)) 1 (nI SA.2.2.1)) SA.2.1 SA.2.2.2.1) 16 SA.2.2.2.2) 1 3 0).2 = M.2 := f1
  generalize zs (za (zrd M1 2 (va_up (va_up (M.1 2) 0 (nI SA.1)) 1 (nI SA.2.2.1)) SA.2.1 SA.2.2.2.1) 16 SA.2.2.2.2) 1 3 0 = N at g1 g2 g7 g8 n n1 n2 n3 n14 n16 n22
  have e : ∀ b, b ≠ 1 → b ≠ 2 → b ≠ 3 → b ≠ 14 → b ≠ 16 → b ≠ 138 → b ≠ 139 → b ≠ 140 → b ≠ 141 → b ≠ 143 → b ≠ 144 → (b < 69 ∨ b = 70 ∨ 87 ≤ b) → M3.1 b = M.1 b := fun b h1 h2 h3 h4 h5 h6 h7 h8 h9 h10 h11 h12 => (g2 b h6 h7 h8 h9 h10 h11).trans ((n b h1 h2 h3 h4 h5).trans (f2 b h12))
  have N138 : N.1 138 = M.1 138 := (n 138 (by decide) (by decide) (by decide) (by decide) (by decide)).trans (f2 138 (by omega))
  have N139 : N.1 139 = M.1 139 := (n 139 (by decide) (by decide) (by decide) (by decide) (by decide)).trans (f2 139 (by omega))
  rw [N138] at g7
  rw [N139] at g8
  have c : ∀ b, b < 138 → M3.1 b = N.1 b := fun b hb => g2 b (by omega) (by omega) (by omega) (by omega) (by omega) (by omega)
  have e69 : M3.1 69 1 = 0 := by rw [c 69 (by omega), n 69 (by decide) (by decide) (by decide) (by decide) (by decide)]; exact f69
  have e2 : M3.2 = M.2 := g1.trans n22
  have ok : tOK SB.1 SB.2.2.1 (M3.1 141) := by
    refine ⟨⟨by rw [g10]; exact r12, fun p hp => ?_, Or.inl (g11 2 (by omega) (by omega))⟩, ⟨fun p hp y => ?_, fun p q hp hq y z => ?_⟩, fun _ => g11 1 (by omega) (by omega), 0, by omega, g11 3 (by omega) (by omega)⟩
    · by_cases z : p < SB.2.2.1
      · rw [g12 p z]; exact r13 p z
      · rw [g13 p (by omega) hp]; exact Or.inl rfl
    · rw [g12 p hp, g10] at y
      rw [g10]
      exact r14.1 p hp y
    · rw [g12 p hp, g12 q hq] at y
      rw [g12 p hp] at z
      exact r14.2 p q hp hq y z
  have tt := tT0_0 (M.1 16)
  have W : WN M3 M3 SB.1 SB.2.2.1 0 0 := by
    refine WN.mk ⟨r3, r4, by omega, by omega⟩ ⟨?_, ?_, ?_, ?_, ?_⟩ ⟨g3, g4, g6⟩ ⟨fun q hq => ?_, fun q hq => ?_⟩ ⟨M.1 16 4, ?_, ?_, ?_, ?_, ?_, fun p hp => ?_⟩ ⟨fun j hj => absurd hj (by omega), fun j hj => absurd hj (by omega), ?_⟩ ⟨fun j hj => ?_, fun j hj => ?_, fun p hp => ?_⟩ ⟨ok, g11 3 (by omega) (by omega)⟩
    · rw [c 2 (by omega), n2, va_up_ne _ _ (by decide), va_up_self, r1]
    · rw [c 2 (by omega), n2, va_up_self, r2]
    · rw [c 2 (by omega), n2, va_up_ne _ _ (by decide), va_up_ne _ _ (by decide), g7 5 (by omega)]; exact S.cf.2.2.1
    · rw [c 2 (by omega), n2, va_up_ne _ _ (by decide), va_up_ne _ _ (by decide), g7 6 (by omega)]; exact S.cf.2.2.2.1
    · rw [c 1 (by omega), n1]; rfl
    · rw [c 3 (by omega), n3, g8 q, if_pos hq]; exact r5 q hq
    · rw [c 14 (by omega), n14, g9 q hq]; exact r6 q hq
    · rw [c 16 (by omega), n16, g10]; exact r7
    · rw [c 16 (by omega), n16, g11 1 (by omega) (by omega), r9 1 (by omega) (by omega)]; exact tt.2.1
    · rw [c 16 (by omega), n16, g11 2 (by omega) (by omega), r9 2 (by omega) (by omega)]; exact tt.2.2.1
    · rw [c 16 (by omega), n16, g11 3 (by omega) (by omega), r9 3 (by omega) (by omega)]; exact tt.2.2.2.1
    · rw [c 16 (by omega), n16, g11 4 (by omega) (by omega), r9 4 (by omega) (by omega), Int32.zero_add]; exact tt.2.2.2.2
    · rw [c 16 (by omega), n16]
      show _ = M3.1 141 (5 + p)
      rw [g12 p hp]; exact r8 p hp
    · rw [c 18 (by omega), n 18 (by decide) (by decide) (by decide) (by decide) (by decide), f2 18 (by omega)]; exact S.pm
    · rw [g8]
      by_cases z : 4 * j < 4 * SB.1
      · rw [if_pos z]; exact (r10 j (by omega)).1
      · rw [if_neg z]; exact S.kd.1 j hj
    · rw [g8, if_pos (by omega)]; exact (r10 j hj).2
    · rw [g9 _ (by omega)]; exact r11 p hp
  obtain ⟨w, ts, ⟨k1, k2, k3⟩, ⟨t1, t2, t3, t4, t5⟩, sh⟩ := S
  refine ⟨SB.1, SB.2.2.1, 0, 0, 0, W, by rw [g7 8 (by omega)]; exact ts, ⟨by rw [e 52 (by decide) (by decide) (by decide) (by decide) (by decide) (by decide) (by decide) (by decide) (by decide) (by decide) (by decide) (by decide)]; exact k1, by rw [e 0 (by decide) (by decide) (by decide) (by decide) (by decide) (by decide) (by decide) (by decide) (by decide) (by decide) (by decide) (by decide), g7 25 (by omega)]; exact k2, fun hz => ?_⟩, ⟨e69, g5, by omega, by rw [e 70 (by decide) (by decide) (by decide) (by decide) (by decide) (by decide) (by decide) (by decide) (by decide) (by decide) (by decide) (by decide), e 142 (by decide) (by decide) (by decide) (by decide) (by decide) (by decide) (by decide) (by decide) (by decide) (by decide) (by decide) (by decide)]; exact t4, fun q hq => absurd hq (by omega)⟩, fun q hq => ?_⟩
  · rw [e 0 (by decide) (by decide) (by decide) (by decide) (by decide) (by decide) (by decide) (by decide) (by decide) (by decide) (by decide) (by decide)] at hz
    obtain ⟨a1, a2, a3, a4, K⟩ := k3 hz
    refine ⟨a1, a2, a3, a4, ?_⟩
    unfold WK
    rw [e 149 (by decide) (by decide) (by decide) (by decide) (by decide) (by decide) (by decide) (by decide) (by decide) (by decide) (by decide) (by decide)]
    exact WR.A K (fun b h1 h2 => e b (by omega) (by omega) (by omega) (by omega) (by omega) (by omega) (by omega) (by omega) (by omega) (by omega) (by omega) (by omega))
  · unfold SH1
    rw [e (130 + 2 * q) (by omega) (by omega) (by omega) (by omega) (by omega) (by omega) (by omega) (by omega) (by omega) (by omega) (by omega) (by omega), e 150 (by decide) (by decide) (by decide) (by decide) (by decide) (by decide) (by decide) (by decide) (by decide) (by decide) (by decide) (by decide), e 151 (by decide) (by decide) (by decide) (by decide) (by decide) (by decide) (by decide) (by decide) (by decide) (by decide) (by decide) (by decide), e2]
    exact sh q hq
theorem q8_road {l : Launch} {w : zE} (J : zJ w) {M M2 : zM} {r : Int32} (h : Q7_road M r M2) : zCi l w yX8_road cX8_road 3 (some .int) 3 [.ref (w.2.2 138)] M2 (fun r' M3 => Sim M3 ∧ r' = r) := by
  obtain ⟨nt, np, ah, u, len, S, h⟩ := h
  have t4 : M.1 70 = M.1 142 := S.2.2.2.1.2.2.2.1
  have h120 := S.2.2.2.1.2.2.1
  rcases h with ⟨h1, rfl, f, f69⟩ | ⟨h1, M1, SA, hSA, rfl, f, f69, rfl⟩
  · have S2 : SX M M2 nt np ah u len := S.B (fun b hb => f.2 b (by omega)) (by rw [f.1])
    refine zCi_post (fun r' M3 q => ?_) (t8_road J S2.2.2.2.1.2.1 h120)
    unfold P8_road at q
    rw [f.2 142 (by omega), f.2 143 (by omega), f.2 144 (by omega), ← t4] at q
    obtain ⟨c1, c2, c3⟩ := roadF_cg (L := M.1 70) (len := len) (th := M.1 3) (pe := M.1 14) (T := tT0 (M.1 16)) (th' := M.1 143) (pe' := peR (M.1 144)) (T' := TR (M.1 144)) (tT0_0 _).1 rfl
    rcases q with ⟨z, rfl, g⟩ | ⟨z, _⟩
    · exact ⟨road_fail S f f69 g, by rw [c2]⟩
    · exact absurd (c1.symm.trans h1) z
  · have S2 : SX M (zs (za (zrd M1 2 (va_up (va_up (M.1 2) 0 (nI SA.1)) 1 (nI SA.2.2.1)) SA.2.1 SA.2.2.2.1) 16 SA.2.2.2.2) 1 3 0) nt np ah u len := S.B (fun b hb => by unfold zrd; rw [zs_off _ (by omega), za_off _ (by omega), za_off _ (by omega), za_off _ (by omega), za_off _ (by omega)]; exact f.2 b (by omega)) (by show M1.2 152 = _; rw [f.1])
    have eN : ∀ b, 138 ≤ b → (zs (za (zrd M1 2 (va_up (va_up (M.1 2) 0 (nI SA.1)) 1 (nI SA.2.2.1)) SA.2.1 SA.2.2.2.1) 16 SA.2.2.2.2) 1 3 0).1 b = M.1 b := fun b hb => by unfold zrd; rw [zs_off _ (by omega), za_off _ (by omega), za_off _ (by omega), za_off _ (by omega), za_off _ (by omega)]; exact f.2 b (by omega)
    refine zCi_post (fun r' M3 q => ?_) (t8_road J S2.2.2.2.1.2.1 h120)
    unfold P8_road at q
    rw [eN 142 (by omega), eN 143 (by omega), eN 144 (by omega), ← t4] at q
    obtain ⟨c1, c2, c3⟩ := roadF_cg (L := M.1 70) (len := len) (th := M.1 3) (pe := M.1 14) (T := tT0 (M.1 16)) (th' := M.1 143) (pe' := peR (M.1 144)) (T' := TR (M.1 144)) (tT0_0 _).1 rfl
    rcases q with ⟨z, _⟩ | ⟨z, rfl, g⟩
    · exact absurd (c1.trans z) h1
    · have rr := c3 z
      rw [← hSA] at rr
      exact ⟨road_ok S f f69 rr g, by rw [rr.1.1]⟩
