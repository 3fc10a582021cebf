/-! calls on sheets, in pairs -/
def Q7_seen (M : zM) (x : Int32) (ln : Int32) (i : Int32) (n : Int32) (r : Int32) (M2 : zM) : Prop := ∃ nt np ah u len, SX M M nt np ah u len ∧ ((x < 0 ∨ 3 < x) ∧ M2 = M ∧ r = -1 ∨ ¬ (x < 0 ∨ 3 < x) ∧ ∃ L, P7_seen M L x ln i n r M2)
theorem q7_seen {l : Launch} {w : zE} (J : zJ w) {M : zM} {x : Int32} {ln : Int32} {i : Int32} {n : Int32} (S : Sim M) : zCi l w yX7_seen cX7_seen 9 (some .int) 3 [.ref (w.2.2 0), .int x, .int ln, .int i, .int n] M (Q7_seen M x ln i n) := by
  obtain ⟨nt, np, ah, u, len, S⟩ := S
  by_cases hx : x < 0 ∨ 3 < x
  · exact zCi_post (fun r M2 h => ⟨nt, np, ah, u, len, S, Or.inl ⟨hx, h.1, h.2⟩⟩) (b7_seen J hx)
  · obtain ⟨q, hq, e⟩ := s4_in hx
    obtain ⟨_, ⟨L, hL, hA, hB⟩, _⟩ := S.2.2.2.2 q hq
    exact zCi_post (fun r M2 h => ⟨nt, np, ah, u, len, S, Or.inr ⟨hx, L, h⟩⟩) (t7_seen J S.nt10 (L := L) (by rw [e, nI_clamp (by omega)]; exact hA) hL)
theorem q8_seen {l : Launch} {w : zE} (J : zJ w) {M M2 : zM} {x : Int32} {ln : Int32} {i : Int32} {n : Int32} {r : Int32} (h : Q7_seen M x ln i n r M2) : zCi l w yX8_seen cX8_seen 10 (some .int) 2 [.ref (w.2.2 138), .int x, .int ln, .int i, .int n] M2 (fun r' M3 => Sim M3 ∧ r' = r) := by
  obtain ⟨nt, np, ah, u, len, S, h⟩ := h
  rcases h with ⟨hx, rfl, rfl⟩ | ⟨hx, L, rfl, h⟩
  · refine zCi_post (fun r' M3 q => ?_) (t8_seen J S.rf.1 S.bd.1 S.kd.1 S.sz)
    obtain ⟨rfl, q⟩ := q
    rcases q with ⟨_, rfl⟩ | ⟨z, _⟩
    · exact ⟨S.sim, rfl⟩
    · exact absurd (Or.inl (Or.inl hx)) z
  refine zCi_post (fun r' M3 q => ?_) (t8_seen J S.rf.1 S.bd.1 S.kd.1 S.sz)
  obtain ⟨rfl, q⟩ := q
  refine ⟨S.sim, ?_⟩
  obtain ⟨q0, hq, rfl⟩ := s4_in hx
  have e : (nI q0).toNatClampNeg = q0 := nI_clamp (by omega)
  have H := S.2.2.2.2 q0 hq
  rcases h with ⟨hn, rfl⟩ | ⟨hn, h⟩
  · rcases q with ⟨_, rfl⟩ | ⟨z, _⟩
    · rfl
    · exact absurd (Or.inr hn) z
  by_cases hl : ln < 0 ∨ 3 < ln
  · rw [rowS_l hl] at h
    rcases h with ⟨_, rfl⟩ | ⟨z, _⟩
    · rcases q with ⟨_, rfl⟩ | ⟨z, _⟩
      · rfl
      · exact absurd (Or.inl (Or.inr hl)) z
    · exact absurd (by decide) z
  obtain ⟨m, hm, rfl⟩ := nI_of2 (M := 8) (n := 8) (x := n) (by decide) (by grind) (by grind)
  rw [rowS_q hq hl, n2, row_why H (by omega)] at h
  rcases q with ⟨z, _⟩ | ⟨_, q1, hq1, e1, q⟩
  · exact absurd z (fun y => y.elim (fun y => y.elim hx hl) hn)
  obtain rfl : q0 = q1 := (nI_eq (by omega) (by omega)).mp e1
  rw [n2] at q
  rcases h with ⟨h1, rfl⟩ | ⟨h1, a, m1, ea, em, ham, h⟩
  · rcases q with ⟨_, rfl⟩ | ⟨z, _⟩
    · rfl
    · exact absurd h1 z
  rcases q with ⟨z, _⟩ | ⟨_, a2, m2, ea2, em2, ham2, q⟩
  · exact absurd z h1
  obtain rfl : a = a2 := (nI_eq (by omega) (by omega)).mp (ea.symm.trans ea2)
  obtain rfl : m1 = m2 := (nI_eq (by omega) (by omega)).mp (em.symm.trans em2)
  rw [e, S.cf.1] at h
  rw [S.rf.1] at q
  have eq := H.2.2
  have al := allIn_cg (nt := nI nt) (g := fun k => M3.2 152 (16 * q0 + k)) eq (2 * m1) a ham
  rcases h with ⟨h2, rfl⟩ | ⟨h2, rfl⟩
  · rcases q with ⟨_, rfl⟩ | ⟨z, _⟩
    · rfl
    · exact absurd (al.mpr z) h2
  · rcases q with ⟨z, _⟩ | ⟨z, rfl⟩
    · exact absurd (al.mp h2) z
    · exact (seenL_cg S.bd.1 S.th (g := fun k => M3.2 152 (16 * q0 + k)) eq m1 a 3 ham z).symm
def Q7_drop (M : zM) (x : Int32) (r : Int32) (M2 : zM) : Prop := ∃ nt np ah u len, SX M M nt np ah u len ∧ P7_drop M x r M2
theorem q7_drop {l : Launch} {w : zE} (J : zJ w) {M : zM} {x : Int32} (S : Sim M) : zCi l w yX7_drop cX7_drop 2 (some .int) 1 [.ref (w.2.2 0), .int x] M (Q7_drop M x) := by
  obtain ⟨nt, np, ah, u, len, S⟩ := S
  exact zCi_post (fun r M2 h => ⟨nt, np, ah, u, len, S, h⟩) (t7_drop J)
theorem q8_drop {l : Launch} {w : zE} (J : zJ w) {M M2 : zM} {x : Int32} {r : Int32} (h : Q7_drop M x r M2) : zCi l w yX8_drop cX8_drop 2 (some .int) 2 [.ref (w.2.2 138), .int x] M2 (fun r' M3 => Sim M3 ∧ r' = r) := by
  obtain ⟨nt, np, ah, u, len, S, h⟩ := h
  rcases h with ⟨hx, rfl, rfl⟩ | ⟨hx, h⟩
  · refine zCi_post (fun r' M3 q => ?_) (t8_drop J)
    rcases q with ⟨_, rfl, rfl⟩ | ⟨j, hj, rfl, _⟩
    · exact ⟨S.sim, rfl⟩
    · exact absurd hx (nI4 hj)
  obtain ⟨q0, hq, rfl⟩ := s4_in hx
  have e : (nI q0).toNatClampNeg = q0 := nI_clamp (by omega)
  rw [e] at h
  have H := S.2.2.2.2 q0 hq
  obtain ⟨H1, ⟨L, hL, hA, hB⟩, H3⟩ := H
  rcases h with ⟨h1, rfl, rfl⟩ | ⟨h1, rfl, rfl⟩
  · refine zCi_post (fun r' M3 q => ?_) (t8_drop J)
    rcases q with ⟨z, _⟩ | ⟨j, hj, ej, q⟩
    · exact absurd z hx
    obtain rfl : q0 = j := (nI_eq (by omega) (by omega)).mp ej
    rcases H1 with ⟨_, a2⟩ | ⟨a1, _⟩
    · rw [a2] at q
      rcases q with ⟨_, rfl, rfl⟩ | ⟨z, _⟩
      · exact ⟨S.sim, rfl⟩
      · exact absurd (by decide) z
    · rw [a1] at h1; exact absurd h1 (by decide)
  · have S2 : SX M (zs M (130 + 2 * q0) 0 0) nt np ah u len := S.B (fun b hb => zs_off _ (by omega)) rfl
    refine zCi_post (fun r' M3 q => ?_) (t8_drop J)
    rcases q with ⟨z, _⟩ | ⟨j, hj, ej, q⟩
    · exact absurd z hx
    obtain rfl : q0 = j := (nI_eq (by omega) (by omega)).mp ej
    rw [zs_off _ (show 150 ≠ 130 + 2 * q0 by omega), zs_off _ (show 151 ≠ 130 + 2 * q0 by omega)] at q
    rcases H1 with ⟨a1, _⟩ | ⟨a1, l, hl, a2, a3⟩
    · exact absurd a1 h1
    rw [a3] at q
    rcases q with ⟨z, _⟩ | ⟨_, rfl, rfl⟩
    · exact absurd z (nI_pos (by omega))
    refine ⟨(S.sheets (M3 := zs (zs M (130 + 2 * q0) 0 0) 150 q0 (-1)) (fun b hb => by rw [zs_off _ (by omega), zs_off _ (by omega)]) (fun b hb => by rw [zs_off _ (by omega), zs_off _ (by omega)]) (fun k _ _ _ => by rw [zs_off _ (by decide), zs_off _ (by omega)]) (by rw [zs_off _ (by decide), zs_off _ (by omega)]; exact S.2.1) (fun q hq2 => ?_)).sim, by rw [hB, hA]⟩
    have h151 : (zs (zs M (130 + 2 * q0) 0 0) 150 q0 (-1)).1 151 = M.1 151 := by rw [zs_off _ (by decide), zs_off _ (by omega)]
    have h2 : (zs (zs M (130 + 2 * q0) 0 0) 150 q0 (-1)).2 = M.2 := rfl
    unfold SH1
    rw [h151, h2, zs_off _ (show 130 + 2 * q ≠ 150 by omega), zs_at, zs_off _ (show 150 ≠ 130 + 2 * q0 by omega)]
    by_cases z : q = q0
    · subst z
      rw [zs_at, va_up_self, va_up_self]
      refine ⟨Or.inl ⟨rfl, rfl⟩, ⟨L, hL, ?_, hB⟩, H3⟩
      rw [va_up_ne _ _ (by decide)]
      exact hA
    · rw [zs_off _ (by omega), va_up_ne _ _ z]
      exact S.2.2.2.2 q hq2
def Q7_sheet (M : zM) (x : Int32) (ln : Int32) (n : Int32) (r : Int32) (M2 : zM) : Prop := ∃ nt np ah u len, SX M M nt np ah u len ∧ P7_sheet M x ln n r M2
theorem q7_sheet {l : Launch} {w : zE} (J : zJ w) {M : zM} {x : Int32} {ln : Int32} {n : Int32} (S : Sim M) : zCi l w yX7_sheet cX7_sheet 4 (some .int) 3 [.ref (w.2.2 0), .int x, .int ln, .int n] M (Q7_sheet M x ln n) := by
  obtain ⟨nt, np, ah, u, len, S⟩ := S
  exact zCi_post (fun r M2 h => ⟨nt, np, ah, u, len, S, h⟩) (t7_sheet J)
theorem q8_sheet {l : Launch} {w : zE} (J : zJ w) {M M2 : zM} {x : Int32} {ln : Int32} {n : Int32} {r : Int32} (h : Q7_sheet M x ln n r M2) : zCi l w yX8_sheet cX8_sheet 5 (some .int) 2 [.ref (w.2.2 138), .int x, .int ln, .int n] M2 (fun r' M3 => Sim M3 ∧ r' = r) := by
  obtain ⟨nt, np, ah, u, len, S, h⟩ := h
  rcases h with ⟨hx, rfl, rfl⟩ | ⟨hx, h⟩
  · refine zCi_post (fun r' M3 q => ?_) (t8_sheet J)
    rcases q with ⟨_, rfl, rfl⟩ | ⟨z, _⟩
    · exact ⟨S.sim, rfl⟩
    · exact absurd hx z
  rcases h with ⟨hn, rfl, rfl⟩ | ⟨hn, rfl, rfl⟩
  · refine zCi_post (fun r' M3 q => ?_) (t8_sheet J)
    rcases q with ⟨z, _⟩ | ⟨_, q⟩
    · exact absurd z hx
    rcases q with ⟨_, rfl, rfl⟩ | ⟨j, _, _, z, _⟩
    · exact ⟨S.sim, rfl⟩
    · exact absurd hn z
  obtain ⟨q0, hq, rfl⟩ := s4_in (fun z => hx (Or.inl z))
  obtain ⟨l, hl, rfl⟩ := s4_in (x := ln) (fun z => hx (Or.inr (Or.inl z)))
  obtain ⟨L, hL, rfl⟩ := nI_of2 (M := 16) (n := 16) (x := r) (by decide) hn (Int32.not_lt.mp fun z => hx (Or.inr (Or.inr z)))
  have e : (nI q0).toNatClampNeg = q0 := nI_clamp (by omega)
  rw [e]
  refine zCi_post (fun r' M3 q => ?_) (t8_sheet J)
  rcases q with ⟨z, _⟩ | ⟨_, q⟩
  · exact absurd z hx
  rcases q with ⟨z, _⟩ | ⟨j, hj, ej, _, rfl, rfl⟩
  · exact absurd z hn
  obtain rfl : q0 = j := (nI_eq (by omega) (by omega)).mp ej
  refine ⟨?_, rfl⟩
  have n2 : ∀ (f g : Nat → Int64) (N : zM) (b : Nat), b ≠ 152 → b ≠ 130 + 2 * q0 + 1 → (zya (zs (zs (zya N (130 + 2 * q0 + 1) f) 150 q0 (nI l)) 151 q0 (nI L)) 152 g).2 b = N.2 b := fun f g N b h1 h2 => by
    show va_up (va_up N.2 (130 + 2 * q0 + 1) f) 152 g b = _
    rw [va_up_ne _ _ h1, va_up_ne _ _ h2]
  have m152 : ∀ (f g : Nat → Int64) (N : zM), (zya (zs (zs (zya N (130 + 2 * q0 + 1) f) 150 q0 (nI l)) 151 q0 (nI L)) 152 g).2 152 = g := fun f g N => by
    show va_up (va_up N.2 (130 + 2 * q0 + 1) f) 152 g 152 = g
    exact va_up_self _ _ _
  have mq : ∀ (f g : Nat → Int64) (N : zM), (zya (zs (zs (zya N (130 + 2 * q0 + 1) f) 150 q0 (nI l)) 151 q0 (nI L)) 152 g).2 (130 + 2 * q0 + 1) = f := fun f g N => by
    show va_up (va_up N.2 (130 + 2 * q0 + 1) f) 152 g _ = _
    rw [va_up_ne _ _ (by omega), va_up_self]
  have o152 : (zya (zs (zs (zs M (130 + 2 * q0) 0 1) (130 + 2 * q0) 1 (nI l)) (130 + 2 * q0) 2 (nI L)) (130 + 2 * q0 + 1) (fun _ => 0)).2 152 = M.2 152 := va_up_ne _ _ (by omega)
  rw [o152]
  have e1 : ∀ (f g : Nat → Int64) (b : Nat), b ≠ 130 + 2 * q0 → b ≠ 150 → b ≠ 151 → (zya (zs (zs (zya (zs (zs (zs M (130 + 2 * q0) 0 1) (130 + 2 * q0) 1 (nI l)) (130 + 2 * q0) 2 (nI L)) (130 + 2 * q0 + 1) f) 150 q0 (nI l)) 151 q0 (nI L)) 152 g).1 b = M.1 b := fun f g b h1 h2 h3 => by
    show (zs (zs (zs (zs (zs M (130 + 2 * q0) 0 1) (130 + 2 * q0) 1 (nI l)) (130 + 2 * q0) 2 (nI L)) 150 q0 (nI l)) 151 q0 (nI L)).1 b = _
    rw [zs_off _ h3, zs_off _ h2, zs_off _ h1, zs_off _ h1, zs_off _ h1]
  have f1 : ∀ (f g : Nat → Int64), (zya (zs (zs (zya (zs (zs (zs M (130 + 2 * q0) 0 1) (130 + 2 * q0) 1 (nI l)) (130 + 2 * q0) 2 (nI L)) (130 + 2 * q0 + 1) f) 150 q0 (nI l)) 151 q0 (nI L)) 152 g).1 (130 + 2 * q0) = va_up (va_up (va_up (M.1 (130 + 2 * q0)) 0 1) 1 (nI l)) 2 (nI L) := fun f g => by
    show (zs (zs (zs (zs (zs M (130 + 2 * q0) 0 1) (130 + 2 * q0) 1 (nI l)) (130 + 2 * q0) 2 (nI L)) 150 q0 (nI l)) 151 q0 (nI L)).1 _ = _
    rw [zs_off _ (by omega), zs_off _ (by omega), zs_at, zs_at, zs_at]
  have f150 : ∀ (f g : Nat → Int64), (zya (zs (zs (zya (zs (zs (zs M (130 + 2 * q0) 0 1) (130 + 2 * q0) 1 (nI l)) (130 + 2 * q0) 2 (nI L)) (130 + 2 * q0 + 1) f) 150 q0 (nI l)) 151 q0 (nI L)) 152 g).1 150 = va_up (M.1 150) q0 (nI l) := fun f g => by
    show (zs (zs (zs (zs (zs M (130 + 2 * q0) 0 1) (130 + 2 * q0) 1 (nI l)) (130 + 2 * q0) 2 (nI L)) 150 q0 (nI l)) 151 q0 (nI L)).1 150 = _
    rw [zs_off _ (by omega), zs_at, zs_off _ (by omega), zs_off _ (by omega), zs_off _ (by omega)]
  have f151 : ∀ (f g : Nat → Int64), (zya (zs (zs (zya (zs (zs (zs M (130 + 2 * q0) 0 1) (130 + 2 * q0) 1 (nI l)) (130 + 2 * q0) 2 (nI L)) (130 + 2 * q0 + 1) f) 150 q0 (nI l)) 151 q0 (nI L)) 152 g).1 151 = va_up (M.1 151) q0 (nI L) := fun f g => by
    show (zs (zs (zs (zs (zs M (130 + 2 * q0) 0 1) (130 + 2 * q0) 1 (nI l)) (130 + 2 * q0) 2 (nI L)) 150 q0 (nI l)) 151 q0 (nI L)).1 151 = _
    rw [zs_at, zs_off _ (by omega), zs_off _ (by omega), zs_off _ (by omega), zs_off _ (by omega)]
  refine (S.sheets (fun b hb => e1 _ _ b (by omega) (by omega) (by omega)) (fun b hb => e1 _ _ b (by omega) (by omega) (by omega)) (fun k _ _ _ => congrFun (e1 _ _ 138 (by omega) (by omega) (by omega)) k) ((congrFun (e1 _ _ 138 (by omega) (by omega) (by omega)) 8).trans S.2.1) (fun q hq2 => ?_)).sim
  unfold SH1
  rw [f150, f151, m152]
  by_cases z : q = q0
  · subst z
    rw [f1, mq]
    refine ⟨Or.inr ⟨by simp +decide only [va_g, if_true, if_false], l, hl, by simp +decide only [va_g, if_true, if_false], va_up_self _ _ _⟩, ⟨L, hL, by simp +decide only [va_g, if_true], va_up_self _ _ _⟩, fun i hi => ?_⟩
    rw [zeL_g, if_pos (by omega)]
  · rw [e1 _ _ (130 + 2 * q) (by omega) (by omega) (by omega), n2 _ _ _ (130 + 2 * q + 1) (by omega) (by omega), va_up_ne _ _ z, va_up_ne _ _ z]
    obtain ⟨H1, H2, H3⟩ := S.2.2.2.2 q hq2
    refine ⟨H1, H2, fun i hi => ?_⟩
    rw [zeL_g, if_neg (by omega)]
    exact H3 i hi
def Q7_item (M : zM) (x : Int32) (ln : Int32) (i : Int32) (v : Int64) (r : Int32) (M2 : zM) : Prop := ∃ nt np ah u len, SX M M nt np ah u len ∧ ((x < 0 ∨ 3 < x) ∧ M2 = M ∧ r = -1 ∨ ¬ (x < 0 ∨ 3 < x) ∧ ∃ L, P7_item M L x ln i v r M2)
theorem q7_item {l : Launch} {w : zE} (J : zJ w) {M : zM} {x : Int32} {ln : Int32} {i : Int32} {v : Int64} (S : Sim M) : zCi l w yX7_item cX7_item 7 (some .int) 3 [.ref (w.2.2 0), .int x, .int ln, .int i, .long v] M (Q7_item M x ln i v) := by
  obtain ⟨nt, np, ah, u, len, S⟩ := S
  by_cases hx : x < 0 ∨ 3 < x
  · exact zCi_post (fun r M2 h => ⟨nt, np, ah, u, len, S, Or.inl ⟨hx, h.1, h.2⟩⟩) (b7_item J hx)
  · obtain ⟨q, hq, e⟩ := s4_in hx
    obtain ⟨_, ⟨L, hL, hA, hB⟩, _⟩ := S.2.2.2.2 q hq
    exact zCi_post (fun r M2 h => ⟨nt, np, ah, u, len, S, Or.inr ⟨hx, L, h⟩⟩) (t7_item J (L := L) (by rw [e, nI_clamp (by omega)]; exact hA) hL)
theorem q8_item {l : Launch} {w : zE} (J : zJ w) {M M2 : zM} {x : Int32} {ln : Int32} {i : Int32} {v : Int64} {r : Int32} (h : Q7_item M x ln i v r M2) : zCi l w yX8_item cX8_item 7 (some .int) 2 [.ref (w.2.2 138), .int x, .int ln, .int i, .long v] M2 (fun r' M3 => Sim M3 ∧ r' = r) := by
  obtain ⟨nt, np, ah, u, len, S, h⟩ := h
  rcases h with ⟨hx, rfl, rfl⟩ | ⟨hx, L0, h⟩
  · refine zCi_post (fun r' M3 q => ?_) (t8_item J S.sz)
    rcases q with ⟨_, rfl, rfl⟩ | ⟨z, _⟩
    · exact ⟨S.sim, rfl⟩
    · exact absurd (Or.inl hx) z
  obtain ⟨q0, hq, rfl⟩ := s4_in hx
  have e : (nI q0).toNatClampNeg = q0 := nI_clamp (by omega)
  have H := S.2.2.2.2 q0 hq
  unfold P7_item at h
  rw [e] at h
  by_cases hl : ln < 0 ∨ 3 < ln
  · rw [rowS_l hl] at h
    rcases h with ⟨_, rfl, rfl⟩ | ⟨z, _⟩
    · refine zCi_post (fun r' M3 q => ?_) (t8_item J S.sz)
      rcases q with ⟨_, rfl, rfl⟩ | ⟨z, _⟩
      · exact ⟨S.sim, rfl⟩
      · exact absurd (Or.inr hl) z
    · exact absurd (by decide) z
  rw [rowS_q hq hl, show (1 : Int32) = nI 1 from rfl, row_why H (by omega)] at h
  have hb : ¬ ((nI q0 < 0 ∨ 3 < nI q0) ∨ (ln < 0 ∨ 3 < ln)) := fun y => y.elim hx hl
  rcases h with ⟨h1, rfl, rfl⟩ | ⟨h1, rfl, a, ea, ha, rfl⟩
  · refine zCi_post (fun r' M3 q => ?_) (t8_item J S.sz)
    rcases q with ⟨z, _⟩ | ⟨_, j, hj, ej, q⟩
    · exact absurd z hb
    obtain rfl : q0 = j := (nI_eq (by omega) (by omega)).mp ej
    rcases q with ⟨_, rfl, rfl⟩ | ⟨z, _⟩
    · exact ⟨S.sim, rfl⟩
    · exact absurd h1 z
  have S2 : SX M (zy M (130 + 2 * q0 + 1) a (putF ln v)) nt np ah u len := S.B (fun b hb => rfl) (va_up_ne _ _ (by omega))
  refine zCi_post (fun r' M3 q => ?_) (t8_item J S2.sz)
  rcases q with ⟨z, _⟩ | ⟨_, j, hj, ej, q⟩
  · exact absurd z hb
  obtain rfl : q0 = j := (nI_eq (by omega) (by omega)).mp ej
  rcases q with ⟨z, _⟩ | ⟨_, rfl, a2, ea2, ha2, rfl⟩
  · exact absurd z h1
  obtain rfl : a = a2 := (nI_eq (by omega) (by omega)).mp (ea.symm.trans ea2)
  obtain ⟨H1, ⟨L, hL, hA, hB⟩, H3⟩ := H
  have hw := why_ok (m := 1) (by omega) hB hL h1
  refine ⟨?_, rfl⟩
  have l150 : (zy M (130 + 2 * q0 + 1) a (putF ln v)).1 150 q0 = ln := hw.2.1
  rw [l150]
  refine (S.sheets (M3 := zy (zy M (130 + 2 * q0 + 1) a (putF ln v)) 152 (16 * q0 + a) (putF ln v)) (fun b hb => rfl) (fun b hb => rfl) (fun k _ _ _ => rfl) S.2.1 (fun q hq2 => ?_)).sim
  obtain ⟨G1, G2, G3⟩ := S.2.2.2.2 q hq2
  refine ⟨G1, G2, fun i hi => ?_⟩
  show va_up (va_up M.2 (130 + 2 * q0 + 1) (va_up (M.2 (130 + 2 * q0 + 1)) a (putF ln v))) 152 (va_up (va_up M.2 (130 + 2 * q0 + 1) (va_up (M.2 (130 + 2 * q0 + 1)) a (putF ln v)) 152) (16 * q0 + a) (putF ln v)) (130 + 2 * q + 1) i = va_up (va_up M.2 (130 + 2 * q0 + 1) (va_up (M.2 (130 + 2 * q0 + 1)) a (putF ln v))) 152 (va_up (va_up M.2 (130 + 2 * q0 + 1) (va_up (M.2 (130 + 2 * q0 + 1)) a (putF ln v)) 152) (16 * q0 + a) (putF ln v)) 152 (16 * q + i)
  rw [va_up_self, va_up_ne _ _ (show 130 + 2 * q + 1 ≠ 152 by omega), va_up_ne _ _ (show 152 ≠ 130 + 2 * q0 + 1 by omega)]
  by_cases z : q = q0
  · subst z
    rw [va_up_self, va_g, va_g]
    by_cases y : i = a
    · rw [if_pos y, if_pos (by omega)]
    · rw [if_neg y, if_neg (by omega)]; exact G3 i hi
  · rw [va_up_ne _ _ (by omega), va_up_ne _ _ (by omega)]
    exact G3 i hi
def Q7_film (M : zM) (x : Int32) (ln : Int32) (i : Int32) (r : Int32) (M2 : zM) : Prop := ∃ nt np ah u len, SX M M nt np ah u len ∧ ((x < 0 ∨ 3 < x) ∧ M2 = M ∧ r = -1 ∨ ¬ (x < 0 ∨ 3 < x) ∧ ∃ L, P7_film M np ah L x ln i r M2)
theorem q7_film {l : Launch} {w : zE} (J : zJ w) {M : zM} {x : Int32} {ln : Int32} {i : Int32} (S : Sim M) : zCi l w yX7_film cX7_film 7 (some .int) 5 [.ref (w.2.2 0), .int x, .int ln, .int i] M (Q7_film M x ln i) := by
  obtain ⟨nt, np, ah, u, len, S⟩ := S
  by_cases hx : x < 0 ∨ 3 < x
  · exact zCi_post (fun r M2 h => ⟨nt, np, ah, u, len, S, Or.inl ⟨hx, h.1, h.2⟩⟩) (b7_film J hx)
  · obtain ⟨q, hq, e⟩ := s4_in hx
    obtain ⟨_, ⟨L, hL, hA, hB⟩, _⟩ := S.2.2.2.2 q hq
    exact zCi_post (fun r M2 h => ⟨nt, np, ah, u, len, S, Or.inr ⟨hx, L, h⟩⟩) (t7_film J S.nok (L := L) (by rw [e, nI_clamp (by omega)]; exact hA) hL)
theorem q8_film {l : Launch} {w : zE} (J : zJ w) {M M2 : zM} {x : Int32} {ln : Int32} {i : Int32} {r : Int32} (h : Q7_film M x ln i r M2) : zCi l w yX8_film cX8_film 7 (some .int) 7 [.ref (w.2.2 138), .int x, .int ln, .int i] M2 (fun r' M3 => Sim M3 ∧ r' = r) := by
  obtain ⟨nt, np, ah, u, len, S, h⟩ := h
  have h12 := S.bd.2.2.1
  rcases h with ⟨hx, rfl, rfl⟩ | ⟨hx, L0, h⟩
  · refine zCi_post (fun r' M3 q => ?_) (t8_film J S.rok S.sz)
    rcases q with ⟨_, rfl, rfl⟩ | ⟨z, _⟩
    · exact ⟨S.sim, rfl⟩
    · exact absurd (Or.inl hx) z
  obtain ⟨q0, hq, rfl⟩ := s4_in hx
  have e : (nI q0).toNatClampNeg = q0 := nI_clamp (by omega)
  have H := S.2.2.2.2 q0 hq
  unfold P7_film at h
  rw [e] at h
  by_cases hl : ln < 0 ∨ 3 < ln
  · rw [rowS_l hl] at h
    rcases h with ⟨_, rfl, rfl⟩ | ⟨z, _⟩
    · refine zCi_post (fun r' M3 q => ?_) (t8_film J S.rok S.sz)
      rcases q with ⟨_, rfl, rfl⟩ | ⟨z, _⟩
      · exact ⟨S.sim, rfl⟩
      · exact absurd (Or.inr hl) z
    · exact absurd (by decide) z
  rw [rowS_q hq hl, row_why H (by omega)] at h
  have hb : ¬ ((nI q0 < 0 ∨ 3 < nI q0) ∨ (ln < 0 ∨ 3 < ln)) := fun y => y.elim hx hl
  rcases h with ⟨h1, rfl, rfl⟩ | ⟨h1, rfl, fA, p, ep, hp, f2⟩
  · refine zCi_post (fun r' M3 q => ?_) (t8_film J S.rok S.sz)
    rcases q with ⟨z, _⟩ | ⟨_, j, hj, ej, q⟩
    · exact absurd z hb
    obtain rfl : q0 = j := (nI_eq (by omega) (by omega)).mp ej
    rcases q with ⟨_, rfl, rfl⟩ | ⟨z, _⟩
    · exact ⟨S.sim, rfl⟩
    · exact absurd h1 z
  have m152 : M2.2 152 = M.2 152 := by rw [f2]; exact va_up_ne _ _ (by omega)
  have S2 : SX M M2 nt np ah u len := S.B (fun b hb => fA b (by omega)) m152
  refine zCi_post (fun r' M3 q => ?_) (t8_film J S2.rok S2.sz)
  rcases q with ⟨z, _⟩ | ⟨_, j, hj, ej, q⟩
  · exact absurd z hb
  obtain rfl : q0 = j := (nI_eq (by omega) (by omega)).mp ej
  rw [fA 150 (by omega), fA 151 (by omega)] at q
  rcases q with ⟨z, _⟩ | ⟨_, rfl, p2, ep2, hp2, zg, g2⟩
  · exact absurd z h1
  refine ⟨?_, rfl⟩
  obtain ⟨H1, ⟨L, hL, hA, hB⟩, H3⟩ := H
  have hw := why_ok (m := 12 - ah) (by omega) hB hL h1
  rw [hw.2.1] at g2
  obtain ⟨d, t⟩ := S2.tr
  obtain ⟨_, gA, g8, g88⟩ := zg
  have e1 : ∀ b, b ≠ 138 → b ≠ 146 → b ≠ 147 → b ≠ 148 → (b < 87 ∨ 129 ≤ b) → M3.1 b = M.1 b := fun b k1 k2 k3 k4 k5 => (gA b k1 k2 k3 k4).trans (fA b k5)
  by_cases h0 : 12 - ah = 0
  · rw [h0] at f2 g2
    have f2' : M2.2 = M.2 := f2.trans (va_up_id _ _)
    have g2' : M3.2 = M.2 := (g2.trans (va_up_id _ _)).trans f2'
    refine (S.sheets (fun b hb => e1 b (by omega) (by omega) (by omega) (by omega) (by omega)) (fun b hb => e1 b (by omega) (by omega) (by omega) (by omega) (by omega)) (fun k k1 k2 k3 => (g8 k k1 k2 k3).trans (by rw [fA 138 (by omega)])) g88 (fun q hq2 => ?_)).sim
    unfold SH1
    rw [e1 (130 + 2 * q) (by omega) (by omega) (by omega) (by omega) (by omega), e1 150 (by omega) (by omega) (by omega) (by omega) (by omega), e1 151 (by omega) (by omega) (by omega) (by omega) (by omega), g2']
    exact S.2.2.2.2 q hq2
  obtain rfl : p = p2 := by
    have b1 : p < 2 ^ 31 := by omega
    exact (nI_eq b1 (by omega)).mp (ep.symm.trans ep2)
  rw [m152] at g2
  obtain ⟨F1, F2⟩ := film_cg (q := q0) (ln := ln) S.bd.1 S2.rb S2.th S2.pe (12 - ah) p (M.1 16, -4) (M2.1 141, M2.1 138 18) (M.2 (130 + 2 * q0 + 1)) (M.2 152) hp t H3
  refine (S.sheets (fun b hb => e1 b (by omega) (by omega) (by omega) (by omega) (by omega)) (fun b hb => e1 b (by omega) (by omega) (by omega) (by omega) (by omega)) (fun k k1 k2 k3 => (g8 k k1 k2 k3).trans (by rw [fA 138 (by omega)])) g88 (fun q hq2 => ?_)).sim
  obtain ⟨G1, G2, G3⟩ := S.2.2.2.2 q hq2
  unfold SH1
  rw [e1 (130 + 2 * q) (by omega) (by omega) (by omega) (by omega) (by omega), e1 150 (by omega) (by omega) (by omega) (by omega) (by omega), e1 151 (by omega) (by omega) (by omega) (by omega) (by omega)]
  refine ⟨G1, G2, fun i hi => ?_⟩
  rw [g2, va_up_self, va_up_ne _ _ (show 130 + 2 * q + 1 ≠ 152 by omega), f2]
  by_cases z : q = q0
  · subst z
    rw [va_up_self]
    exact F1 i hi
  · rw [va_up_ne _ _ (by omega), F2 _ (by omega)]
    exact G3 i hi
