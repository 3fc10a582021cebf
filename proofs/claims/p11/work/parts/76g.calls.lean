/-! calls that change nothing that shows, in pairs -/
def Q7_of (M : zM) (x : Int32) (k : Int32) (r : Int32) (M2 : zM) : Prop := ∃ nt np ah u len, SX M M nt np ah u len ∧ P7_of M np x k r M2
theorem q7_of {l : Launch} {w : zE} (J : zJ w) {M : zM} {x : Int32} {k : Int32} (S : Sim M) : zCi l w yX7_of cX7_of 4 (some .int) 1 [.ref (w.2.2 0), .int x, .int k] M (Q7_of M x k) := by
  obtain ⟨nt, np, ah, u, len, S⟩ := S
  exact zCi_post (fun r M2 h => ⟨nt, np, ah, u, len, S, h⟩) (t7_of J S.nt10 S.cf.2.1 S.bd.2.1)
theorem q8_of {l : Launch} {w : zE} (J : zJ w) {M M2 : zM} {x : Int32} {k : Int32} {r : Int32} (h : Q7_of M x k r M2) : zCi l w yX8_of cX8_of 3 (some .int) 2 [.ref (w.2.2 138), .int x, .int k] M2 (fun r' M3 => Sim M3 ∧ r' = r) := by
  obtain ⟨nt, np, ah, u, len, S, h⟩ := h
  obtain ⟨rfl, rfl⟩ := h
  refine zCi_post (fun r' M3 q => ?_) (t8_of J S.rf.1 S.bd.1 S.rf.2.1 S.bd.2.1)
  obtain ⟨rfl, rfl⟩ := q
  exact ⟨S.sim, a_of S⟩
def Q7_felt (M : zM) (x : Int32) (n : Int32) (k : Int32) (r : Int32) (M2 : zM) : Prop := ∃ nt np ah u len, SX M M nt np ah u len ∧ P7_felt M x n k r M2
theorem q7_felt {l : Launch} {w : zE} (J : zJ w) {M : zM} {x : Int32} {n : Int32} {k : Int32} (S : Sim M) : zCi l w yX7_felt cX7_felt 4 (some .int) 1 [.ref (w.2.2 0), .int x, .int n, .int k] M (Q7_felt M x n k) := by
  obtain ⟨nt, np, ah, u, len, S⟩ := S
  exact zCi_post (fun r M2 h => ⟨nt, np, ah, u, len, S, h⟩) (t7_felt J S.nt10)
theorem q8_felt {l : Launch} {w : zE} (J : zJ w) {M M2 : zM} {x : Int32} {n : Int32} {k : Int32} {r : Int32} (h : Q7_felt M x n k r M2) : zCi l w yX8_felt cX8_felt 4 (some .int) 2 [.ref (w.2.2 138), .int x, .int n, .int k] M2 (fun r' M3 => Sim M3 ∧ r' = r) := by
  obtain ⟨nt, np, ah, u, len, S, h⟩ := h
  obtain ⟨rfl, rfl⟩ := h
  refine zCi_post (fun r' M3 q => ?_) (t8_felt J S.rf.1 S.bd.1 S.kd.1)
  obtain ⟨rfl, rfl⟩ := q
  exact ⟨S.sim, a_felt S⟩
def Q7_told (M : zM) (p : Int32) (k : Int32) (r : Int32) (M2 : zM) : Prop := ∃ nt np ah u len, SX M M nt np ah u len ∧ P7_told M p k r M2
theorem q7_told {l : Launch} {w : zE} (J : zJ w) {M : zM} {p : Int32} {k : Int32} (S : Sim M) : zCi l w yX7_told cX7_told 3 (some .int) 1 [.ref (w.2.2 0), .int p, .int k] M (Q7_told M p k) := by
  obtain ⟨nt, np, ah, u, len, S⟩ := S
  exact zCi_post (fun r M2 h => ⟨nt, np, ah, u, len, S, h⟩) (t7_told J (by rw [S.cf.2.1]; exact nI_le (b := 8) S.bd.2.1 (by decide)))
theorem q8_told {l : Launch} {w : zE} (J : zJ w) {M M2 : zM} {p : Int32} {k : Int32} {r : Int32} (h : Q7_told M p k r M2) : zCi l w yX8_told cX8_told 3 (some .int) 2 [.ref (w.2.2 138), .int p, .int k] M2 (fun r' M3 => Sim M3 ∧ r' = r) := by
  obtain ⟨nt, np, ah, u, len, S, h⟩ := h
  obtain ⟨rfl, rfl⟩ := h
  refine zCi_post (fun r' M3 q => ?_) (t8_told J S.rf.2.1 S.bd.2.1)
  obtain ⟨rfl, rfl⟩ := q
  exact ⟨S.sim, a_told S⟩
def Q7_count (M : zM) (k : Int32) (r : Int32) (M2 : zM) : Prop := ∃ nt np ah u len, SX M M nt np ah u len ∧ P7_count M k r M2
theorem q7_count {l : Launch} {w : zE} (J : zJ w) {M : zM} {k : Int32} (S : Sim M) : zCi l w yX7_count cX7_count 2 (some .int) 0 [.ref (w.2.2 0), .int k] M (Q7_count M k) := by
  obtain ⟨nt, np, ah, u, len, S⟩ := S
  exact zCi_post (fun r M2 h => ⟨nt, np, ah, u, len, S, h⟩) (t7_count J)
theorem q8_count {l : Launch} {w : zE} (J : zJ w) {M M2 : zM} {k : Int32} {r : Int32} (h : Q7_count M k r M2) : zCi l w yX8_count cX8_count 2 (some .int) 0 [.ref (w.2.2 138), .int k] M2 (fun r' M3 => Sim M3 ∧ (¬ k = 8 → r' = r)) := by
  obtain ⟨nt, np, ah, u, len, S, h⟩ := h
  obtain ⟨rfl, rfl⟩ := h
  refine zCi_post (fun r' M3 q => ?_) (t8_count J )
  obtain ⟨rfl, rfl⟩ := q
  exact ⟨S.sim, fun h8 => a_count S h8⟩
def Q7_glad (M : zM) (x : Int32) (r : Int32) (M2 : zM) : Prop := ∃ nt np ah u len, SX M M nt np ah u len ∧ P7_glad M x r M2
theorem q7_glad {l : Launch} {w : zE} (J : zJ w) {M : zM} {x : Int32} (S : Sim M) : zCi l w yX7_glad cX7_glad 2 (some .int) 2 [.ref (w.2.2 0), .int x] M (Q7_glad M x) := by
  obtain ⟨nt, np, ah, u, len, S⟩ := S
  exact zCi_post (fun r M2 h => ⟨nt, np, ah, u, len, S, h⟩) (t7_glad J S.nt10 S.vx)
theorem q8_glad {l : Launch} {w : zE} (J : zJ w) {M M2 : zM} {x : Int32} {r : Int32} (h : Q7_glad M x r M2) : zCi l w yX8_glad cX8_glad 2 (some .int) 4 [.ref (w.2.2 138), .int x] M2 (fun r' M3 => Sim M3 ∧ r' = r) := by
  obtain ⟨nt, np, ah, u, len, S, h⟩ := h
  obtain ⟨rfl, rfl⟩ := h
  refine zCi_post (fun r' M3 q => ?_) (t8_glad J S.rok)
  obtain ⟨rfl, rfl⟩ := q
  exact ⟨S.sim, a_glad S⟩
def Q7_home (M : zM) (k : Int32) (r : Int32) (M2 : zM) : Prop := ∃ nt np ah u len, SX M M nt np ah u len ∧ P7_home M np ah k r M2
theorem q7_home {l : Launch} {w : zE} (J : zJ w) {M : zM} {k : Int32} (S : Sim M) : zCi l w yX7_home cX7_home 3 (some .int) 6 [.ref (w.2.2 0), .int k] M (Q7_home M k) := by
  obtain ⟨nt, np, ah, u, len, S⟩ := S
  exact zCi_post (fun r M2 h => ⟨nt, np, ah, u, len, S, h⟩) (t7_home J S.nok)
theorem q8_home {l : Launch} {w : zE} (J : zJ w) {M M2 : zM} {k : Int32} {r : Int32} (h : Q7_home M k r M2) : zCi l w yX8_home cX8_home 3 (some .int) 7 [.ref (w.2.2 138), .int k] M2 (fun r' M3 => Sim M3 ∧ r' = r) := by
  obtain ⟨nt, np, ah, u, len, S, h⟩ := h
  obtain ⟨f, rfl⟩ := h
  have S2 := S.zfr f
  refine zCi_post (fun r' M3 q => ?_) (t8_home J S2.rok)
  obtain ⟨g, rfl⟩ := q
  exact ⟨(S.fore f g).sim, a_home S2⟩
def Q7_lost (M : zM) (r : Int32) (M2 : zM) : Prop := ∃ nt np ah u len, SX M M nt np ah u len ∧ P7_lost M np ah r M2
theorem q7_lost {l : Launch} {w : zE} (J : zJ w) {M : zM} (S : Sim M) : zCi l w yX7_lost cX7_lost 1 (some .int) 6 [.ref (w.2.2 0)] M (Q7_lost M) := by
  obtain ⟨nt, np, ah, u, len, S⟩ := S
  exact zCi_post (fun r M2 h => ⟨nt, np, ah, u, len, S, h⟩) (t7_lost J S.nok)
theorem q8_lost {l : Launch} {w : zE} (J : zJ w) {M M2 : zM} {r : Int32} (h : Q7_lost M r M2) : zCi l w yX8_lost cX8_lost 2 (some .int) 7 [.ref (w.2.2 138)] M2 (fun r' M3 => Sim M3 ∧ r' = r) := by
  obtain ⟨nt, np, ah, u, len, S, h⟩ := h
  obtain ⟨f, rfl⟩ := h
  have S2 := S.zfr f
  refine zCi_post (fun r' M3 q => ?_) (t8_lost J S2.rok)
  obtain ⟨g, rfl⟩ := q
  exact ⟨(S.fore f g).sim, a_lost S2⟩
def Q7_lurk (M : zM) (x : Int32) (k : Int32) (r : Int32) (M2 : zM) : Prop := ∃ nt np ah u len, SX M M nt np ah u len ∧ P7_lurk M np ah nt x k r M2
theorem q7_lurk {l : Launch} {w : zE} (J : zJ w) {M : zM} {x : Int32} {k : Int32} (S : Sim M) : zCi l w yX7_lurk cX7_lurk 4 (some .int) 6 [.ref (w.2.2 0), .int x, .int k] M (Q7_lurk M x k) := by
  obtain ⟨nt, np, ah, u, len, S⟩ := S
  exact zCi_post (fun r M2 h => ⟨nt, np, ah, u, len, S, h⟩) (t7_lurk J S.nok S.cf.1 S.bd.1)
theorem q8_lurk {l : Launch} {w : zE} (J : zJ w) {M M2 : zM} {x : Int32} {k : Int32} {r : Int32} (h : Q7_lurk M x k r M2) : zCi l w yX8_lurk cX8_lurk 9 (some .int) 7 [.ref (w.2.2 138), .int x, .int k] M2 (fun r' M3 => Sim M3 ∧ r' = r) := by
  obtain ⟨nt, np, ah, u, len, S, h⟩ := h
  obtain ⟨f, rfl⟩ := h
  have S2 := S.zfr f
  refine zCi_post (fun r' M3 q => ?_) (t8_lurk J S2.rok)
  obtain ⟨g, rfl⟩ := q
  exact ⟨(S.fore f g).sim, a_lurk S2⟩
def Q7_stand (M : zM) (x : Int32) (k : Int32) (r : Int32) (M2 : zM) : Prop := ∃ nt np ah u len, SX M M nt np ah u len ∧ P7_stand M np ah x k r M2
theorem q7_stand {l : Launch} {w : zE} (J : zJ w) {M : zM} {x : Int32} {k : Int32} (S : Sim M) : zCi l w yX7_stand cX7_stand 4 (some .int) 6 [.ref (w.2.2 0), .int x, .int k] M (Q7_stand M x k) := by
  obtain ⟨nt, np, ah, u, len, S⟩ := S
  exact zCi_post (fun r M2 h => ⟨nt, np, ah, u, len, S, h⟩) (t7_stand J S.nok)
theorem q8_stand {l : Launch} {w : zE} (J : zJ w) {M M2 : zM} {x : Int32} {k : Int32} {r : Int32} (h : Q7_stand M x k r M2) : zCi l w yX8_stand cX8_stand 8 (some .int) 7 [.ref (w.2.2 138), .int x, .int k] M2 (fun r' M3 => Sim M3 ∧ r' = r) := by
  obtain ⟨nt, np, ah, u, len, S, h⟩ := h
  obtain ⟨f, rfl⟩ := h
  have S2 := S.zfr f
  refine zCi_post (fun r' M3 q => ?_) (t8_stand J S2.rok)
  obtain ⟨g, rfl⟩ := q
  exact ⟨(S.fore f g).sim, a_stand S2⟩
def Q7_sister (M : zM) (x : Int32) (k : Int32) (r : Int32) (M2 : zM) : Prop := ∃ nt np ah u len, SX M M nt np ah u len ∧ P7_sister M np ah x k r M2
theorem q7_sister {l : Launch} {w : zE} (J : zJ w) {M : zM} {x : Int32} {k : Int32} (S : Sim M) : zCi l w yX7_sister cX7_sister 3 (some .int) 6 [.ref (w.2.2 0), .int x, .int k] M (Q7_sister M x k) := by
  obtain ⟨nt, np, ah, u, len, S⟩ := S
  exact zCi_post (fun r M2 h => ⟨nt, np, ah, u, len, S, h⟩) (t7_sister J S.nok)
theorem q8_sister {l : Launch} {w : zE} (J : zJ w) {M M2 : zM} {x : Int32} {k : Int32} {r : Int32} (h : Q7_sister M x k r M2) : zCi l w yX8_sister cX8_sister 4 (some .int) 7 [.ref (w.2.2 138), .int x, .int k] M2 (fun r' M3 => Sim M3 ∧ r' = r) := by
  obtain ⟨nt, np, ah, u, len, S, h⟩ := h
  obtain ⟨f, rfl⟩ := h
  have S2 := S.zfr f
  refine zCi_post (fun r' M3 q => ?_) (t8_sister J S2.rok S2.kd.2.1 S2.kd.2.2)
  obtain ⟨g, rfl⟩ := q
  exact ⟨(S.fore f g).sim, a_sister S2⟩
def Q7_first (M : zM) (x : Int32) (r : Int32) (M2 : zM) : Prop := ∃ nt np ah u len, SX M M nt np ah u len ∧ P7_first M np ah nt x r M2
theorem q7_first {l : Launch} {w : zE} (J : zJ w) {M : zM} {x : Int32} (S : Sim M) : zCi l w yX7_first cX7_first 2 (some .int) 6 [.ref (w.2.2 0), .int x] M (Q7_first M x) := by
  obtain ⟨nt, np, ah, u, len, S⟩ := S
  exact zCi_post (fun r M2 h => ⟨nt, np, ah, u, len, S, h⟩) (t7_first J S.nok S.cf.1 S.bd.1)
theorem q8_first {l : Launch} {w : zE} (J : zJ w) {M M2 : zM} {x : Int32} {r : Int32} (h : Q7_first M x r M2) : zCi l w yX8_first cX8_first 4 (some .int) 7 [.ref (w.2.2 138), .int x] M2 (fun r' M3 => Sim M3 ∧ r' = r) := by
  obtain ⟨nt, np, ah, u, len, S, h⟩ := h
  obtain ⟨f, rfl⟩ := h
  have S2 := S.zfr f
  refine zCi_post (fun r' M3 q => ?_) (t8_first J S2.rok)
  obtain ⟨g, rfl⟩ := q
  exact ⟨(S.fore f g).sim, a_first S2⟩
def Q7_cheated (M : zM) (v : Int32) (r : Int32) (M2 : zM) : Prop := ∃ nt np ah u len, SX M M nt np ah u len ∧ P7_cheated M np ah v r M2
theorem q7_cheated {l : Launch} {w : zE} (J : zJ w) {M : zM} {v : Int32} (S : Sim M) : zCi l w yX7_cheated cX7_cheated 2 (some .int) 6 [.ref (w.2.2 0), .int v] M (Q7_cheated M v) := by
  obtain ⟨nt, np, ah, u, len, S⟩ := S
  exact zCi_post (fun r M2 h => ⟨nt, np, ah, u, len, S, h⟩) (t7_cheated J S.nok)
theorem q8_cheated {l : Launch} {w : zE} (J : zJ w) {M M2 : zM} {v : Int32} {r : Int32} (h : Q7_cheated M v r M2) : zCi l w yX8_cheated cX8_cheated 8 (some .int) 8 [.ref (w.2.2 138), .int v] M2 (fun r' M3 => Sim M3 ∧ r' = r) := by
  obtain ⟨nt, np, ah, u, len, S, h⟩ := h
  obtain ⟨f, rfl⟩ := h
  have S2 := S.zfr f
  refine zCi_post (fun r' M3 q => ?_) (t8_cheated J S2.rok)
  obtain ⟨g, rfl⟩ := q
  exact ⟨(S.fore f g).sim, a_cheated S2⟩
def Q7_chance (M : zM) (x : Int32) (k : Int32) (r : Int32) (M2 : zM) : Prop := ∃ nt np ah u len, SX M M nt np ah u len ∧ P7_chance M np ah x k r M2
theorem q7_chance {l : Launch} {w : zE} (J : zJ w) {M : zM} {x : Int32} {k : Int32} (S : Sim M) : zCi l w yX7_chance cX7_chance 6 (some .int) 26 [.ref (w.2.2 0), .int x, .int k] M (Q7_chance M x k) := by
  obtain ⟨nt, np, ah, u, len, S⟩ := S
  exact zCi_post (fun r M2 h => ⟨nt, np, ah, u, len, S, h⟩) (t7_chance J S.nok)
theorem q8_chance {l : Launch} {w : zE} (J : zJ w) {M M2 : zM} {x : Int32} {k : Int32} {r : Int32} (h : Q7_chance M x k r M2) : zCi l w yX8_chance cX8_chance 6 (some .int) 7 [.ref (w.2.2 138), .int x, .int k] M2 (fun r' M3 => Sim M3 ∧ r' = r) := by
  obtain ⟨nt, np, ah, u, len, S, h⟩ := h
  obtain ⟨f, rfl⟩ := h
  have S2 := S.zfr f
  refine zCi_post (fun r' M3 q => ?_) (t8_chance J S2.rok)
  obtain ⟨g, rfl⟩ := q
  exact ⟨(S.fore f g).sim, a_chance S2⟩
def Q7_meet (M : zM) (x : Int32) (k : Int32) (r : Int32) (M2 : zM) : Prop := ∃ nt np ah u len, SX M M nt np ah u len ∧ P7_meet M np x k r M2
theorem q7_meet {l : Launch} {w : zE} (J : zJ w) {M : zM} {x : Int32} {k : Int32} (S : Sim M) : zCi l w yX7_meet cX7_meet 4 (some .int) 4 [.ref (w.2.2 0), .int x, .int k] M (Q7_meet M x k) := by
  obtain ⟨nt, np, ah, u, len, S⟩ := S
  exact zCi_post (fun r M2 h => ⟨nt, np, ah, u, len, S, h⟩) (t7_meet J S.nt10 S.cf.2.1 S.bd.2.1 S.vx)
theorem q8_meet {l : Launch} {w : zE} (J : zJ w) {M M2 : zM} {x : Int32} {k : Int32} {r : Int32} (h : Q7_meet M x k r M2) : zCi l w yX8_meet cX8_meet 6 (some .int) 2 [.ref (w.2.2 138), .int x, .int k] M2 (fun r' M3 => Sim M3 ∧ r' = r) := by
  obtain ⟨nt, np, ah, u, len, S, h⟩ := h
  obtain ⟨f, U, R, u0, u1, u2, hR, rfl⟩ := h
  have S2 := S.zfr f
  obtain ⟨d, t⟩ := S2.tr
  have zg : zgf 138 M2 M2 := zgf.rf S2.2.1
  refine zCi_post (fun r' M3 q => ?_) (t8_meet J S2.rok)
  unfold P8_meet at q
  rw [S2.rf.1] at q
  rw [S.cf.1]
  rcases q with ⟨b, rfl, rfl⟩ | ⟨b, q⟩
  · exact ⟨(S.fore f zg).sim, by rw [if_neg b]⟩
  rw [if_pos b]
  rcases q with ⟨c, rfl, rfl⟩ | ⟨c, R', hR', rfl, rfl⟩
  · refine ⟨(S.fore f zg).sim, ?_⟩
    rw [if_pos]
    rcases c with c | c
    · exact Or.inl (fun z => c ((who_cg S.bd.2.1 t).mp z))
    · exact Or.inr (t.1.trans c)
  have zg2 : zgf 138 M2 (za M2 148 R'.2.1) := ⟨rfl, fun b h1 h2 h3 h4 => za_off M2 (b := 148) h4, fun k h1 h2 h3 => congrFun (za_off M2 (b := 148) (c := 138) (by decide)) k, (congrFun (za_off M2 (b := 148) (c := 138) (by decide)) 8).trans S2.2.1⟩
  refine ⟨(S.fore f zg2).sim, ?_⟩
  have c1 : ¬ (¬ whoF (M.1 16) np x = -4 ∨ M.1 16 0 = -4) := fun z => c (z.elim (fun z => Or.inl (fun y => z ((who_cg S.bd.2.1 t).mpr y))) (fun z => Or.inr (t.1.symm.trans z)))
  rw [if_neg c1]
  have v0 : 0 ≤ M.1 16 0 ∧ M.1 16 0 < nI nt := by
    rw [t.1]
    rcases S2.tk.1.1 with y | ⟨j, hj, y⟩
    · exact absurd (Or.inr y) c
    · rw [y]; exact ⟨nI_pos' (by have := S.bd.1; omega), nI_lt hj (by have := S.bd.1; omega)⟩
  have m : mr (M.1 16) U (M.1 2 2) 99 (mtT (M2.1 148) (M2.1 141 0) (M2.1 141 1) (M2.1 141 2) (M2.1 138 5) x) := by
    unfold mtT
    refine ⟨?_, ?_, ?_, ?_, ?_, ?_, ?_, ?_⟩ <;> simp +decide only [va_g, if_true, if_false]
    · exact t.1.symm
    · exact t.2.1.symm
    · exact t.2.2.1.symm
    · exact S2.cf.2.2.1.symm
    · exact u0.symm
    · exact u1.symm
    · exact u2.symm
  have Z := meet_cg S.bd.1 S2.th 200 0 (M.1 16) U 0 _ (Or.inl rfl) m v0 (by rw [u0]; exact b.1)
  rw [← hR'] at Z
  have hR2 : R = meetL (M.1 3) (M.1 2 2) 200 (0 + 1) (M.1 16, U, 0) := hR
  rw [← hR2] at Z
  rcases Z with ⟨z1, z2⟩ | ⟨z1, z2, z3, z4, z5⟩
  · rw [if_pos z1, if_pos (Or.inl z2), z2]
  · rw [if_neg z1]
    have hn : ¬ R.1 = -4 := by rw [z2]; exact (by decide +kernel : ∀ h, h < 201 → ¬ nI h = -4) _ (by omega)
    by_cases k0 : k = 0
    · rw [if_pos k0, if_pos (Or.inr k0), z2]
    · rw [if_neg k0, if_neg (show ¬ (R.1 = -4 ∨ k = 0) from fun y => y.elim hn k0), z4, z5]
