def zdBytes : Nat → Nat → List UInt8
  | 0, _ => []
  | k + 1, x => UInt8.ofNat (x % 256) :: zdBytes k (x / 256)
def zdB (x t : Nat) : Nat := (x >>> (8 * t)) % 256
theorem zdGet : ∀ (m x t : Nat), t < m → (zdBytes m x)[t]? = some (UInt8.ofNat (zdB x t))
  | 0, _, _, h => absurd h (Nat.not_lt_zero _)
  | k + 1, x, 0, _ => rfl
  | k + 1, x, t + 1, h => by
    show (zdBytes k (x / 256))[t]? = _
    rw [zdGet k (x / 256) t (Nat.lt_of_succ_lt_succ h)]
    have e : x / 256 = x >>> 8 := by rw [Nat.shiftRight_eq_div_pow]
    unfold zdB
    rw [e, ← Nat.shiftRight_add]
    have e2 : 8 + 8 * t = 8 * (t + 1) := by omega
    rw [e2]
theorem zdU1 {c : ByteArray} {m x : Nat} (hW : c.data.toList = zdBytes m x) {t : Nat} (h : t < m) : (Reader.u1 : Decoder Nat) c t = .ok (zdB x t, t + 1) := by
  have hb : c.data[t]? = some (UInt8.ofNat (zdB x t)) := by
    rw [← Array.getElem?_toList, hW]; exact zdGet m x t h
  show (if h : t < c.size then _ else _ : Decoder Nat) c t = _
  have hp : t < c.data.size := by
    rcases Nat.lt_or_ge t c.data.size with h3 | h3
    · exact h3
    · rw [Array.getElem?_eq_none h3] at hb; cases hb
  have hp2 : t < c.size := hp
  rw [dif_pos hp2]
  rw [Array.getElem?_eq_getElem hp] at hb
  injection hb with hb
  have hb2 : c[t] = UInt8.ofNat (zdB x t) := hb
  rw [hb2]
  have e : (UInt8.ofNat (zdB x t)).toNat = zdB x t := by
    rw [UInt8.toNat_ofNat']; exact Nat.mod_eq_of_lt (Nat.mod_lt _ (by decide))
  show Except.ok ((UInt8.ofNat (zdB x t)).toNat, t + 1) = _
  rw [e]
theorem zdDec {c : ByteArray} {p n : Nat} {a : Instr} (h : Decoder.instr p c p = .ok (a, p + n)) : decode c p = .ok (a, n) := by
  show (do let q ← Decoder.instr p c p; pure (q.1, q.2 - p) : Except DecodeError (Instr × Nat)) = _
  rw [h]
  show Except.ok (a, p + n - p) = _
  rw [Nat.add_sub_cancel_left]
theorem zdBd {α β : Type} {x : Decoder α} {f : α → Decoder β} {c : ByteArray} {p q : Nat} {a : α} {r : Except DecodeError (β × Nat)} (h : x c p = .ok (a, q)) (hf : f a c q = r) : (x >>= f) c p = r := by
  show ((x c p) >>= fun q => f q.1 c q.2) = _
  rw [h]; exact hf
theorem zdU2 {c : ByteArray} {m x : Nat} (hW : c.data.toList = zdBytes m x) {t : Nat} (h : t + 1 < m) : (Reader.u2 : Decoder Nat) c t = .ok (zdB x t * 256 + zdB x (t + 1), t + 2) :=
  zdBd (zdU1 hW (Nat.lt_of_succ_lt h)) (zdBd (zdU1 hW h) rfl)
theorem zdS1 {c : ByteArray} {m x : Nat} (hW : c.data.toList = zdBytes m x) {t : Nat} (h : t < m) : (Reader.s1 : Decoder Int) c t = .ok (Reader.signed 8 (zdB x t), t + 1) := by
  show (Reader.u1 >>= fun a => pure (Reader.signed 8 a) : Decoder Int) c t = _
  exact zdBd (zdU1 hW h) rfl
theorem zdS2 {c : ByteArray} {m x : Nat} (hW : c.data.toList = zdBytes m x) {t : Nat} (h : t + 1 < m) : (Reader.s2 : Decoder Int) c t = .ok (Reader.signed 16 (zdB x t * 256 + zdB x (t + 1)), t + 2) := by
  show (Reader.u2 >>= fun a => pure (Reader.signed 16 a) : Decoder Int) c t = _
  exact zdBd (zdU2 hW h) rfl
theorem zdQ {a b n m : Nat} {q : Bool} (h : (Nat.beq a b && (Nat.ble n m && q)) = true) : a = b ∧ n ≤ m ∧ q = true := by
  rw [Bool.and_eq_true, Bool.and_eq_true] at h
  exact ⟨Nat.eq_of_beq_eq_true h.1, Nat.le_of_ble_eq_true h.2.1, h.2.2⟩
set_option maxRecDepth 16384 in
theorem zdO_2 {c : ByteArray} {m x p : Nat} (hW : c.data.toList = zdBytes m x) (h : (Nat.beq (zdB x p) 2 && (Nat.ble (p + 1) m && true)) = true) : decode c p = .ok ((.iconst (-1)), 1) := zdDec (by
  obtain ⟨h1, h2, h3⟩ := zdQ h
  have hu := zdU1 hW (t := p) (by omega)
  rw [h1] at hu
  unfold Decoder.instr
  exact zdBd hu rfl)
set_option maxRecDepth 16384 in
theorem zdO_3 {c : ByteArray} {m x p : Nat} (hW : c.data.toList = zdBytes m x) (h : (Nat.beq (zdB x p) 3 && (Nat.ble (p + 1) m && true)) = true) : decode c p = .ok ((.iconst 0), 1) := zdDec (by
  obtain ⟨h1, h2, h3⟩ := zdQ h
  have hu := zdU1 hW (t := p) (by omega)
  rw [h1] at hu
  unfold Decoder.instr
  exact zdBd hu rfl)
set_option maxRecDepth 16384 in
theorem zdO_4 {c : ByteArray} {m x p : Nat} (hW : c.data.toList = zdBytes m x) (h : (Nat.beq (zdB x p) 4 && (Nat.ble (p + 1) m && true)) = true) : decode c p = .ok ((.iconst 1), 1) := zdDec (by
  obtain ⟨h1, h2, h3⟩ := zdQ h
  have hu := zdU1 hW (t := p) (by omega)
  rw [h1] at hu
  unfold Decoder.instr
  exact zdBd hu rfl)
set_option maxRecDepth 16384 in
theorem zdO_5 {c : ByteArray} {m x p : Nat} (hW : c.data.toList = zdBytes m x) (h : (Nat.beq (zdB x p) 5 && (Nat.ble (p + 1) m && true)) = true) : decode c p = .ok ((.iconst 2), 1) := zdDec (by
  obtain ⟨h1, h2, h3⟩ := zdQ h
  have hu := zdU1 hW (t := p) (by omega)
  rw [h1] at hu
  unfold Decoder.instr
  exact zdBd hu rfl)
set_option maxRecDepth 16384 in
theorem zdO_6 {c : ByteArray} {m x p : Nat} (hW : c.data.toList = zdBytes m x) (h : (Nat.beq (zdB x p) 6 && (Nat.ble (p + 1) m && true)) = true) : decode c p = .ok ((.iconst 3), 1) := zdDec (by
  obtain ⟨h1, h2, h3⟩ := zdQ h
  have hu := zdU1 hW (t := p) (by omega)
  rw [h1] at hu
  unfold Decoder.instr
  exact zdBd hu rfl)
set_option maxRecDepth 16384 in
theorem zdO_7 {c : ByteArray} {m x p : Nat} (hW : c.data.toList = zdBytes m x) (h : (Nat.beq (zdB x p) 7 && (Nat.ble (p + 1) m && true)) = true) : decode c p = .ok ((.iconst 4), 1) := zdDec (by
  obtain ⟨h1, h2, h3⟩ := zdQ h
  have hu := zdU1 hW (t := p) (by omega)
  rw [h1] at hu
  unfold Decoder.instr
  exact zdBd hu rfl)
set_option maxRecDepth 16384 in
theorem zdO_8 {c : ByteArray} {m x p : Nat} (hW : c.data.toList = zdBytes m x) (h : (Nat.beq (zdB x p) 8 && (Nat.ble (p + 1) m && true)) = true) : decode c p = .ok ((.iconst 5), 1) := zdDec (by
  obtain ⟨h1, h2, h3⟩ := zdQ h
  have hu := zdU1 hW (t := p) (by omega)
  rw [h1] at hu
  unfold Decoder.instr
  exact zdBd hu rfl)
set_option maxRecDepth 16384 in
theorem zdO_9 {c : ByteArray} {m x p : Nat} (hW : c.data.toList = zdBytes m x) (h : (Nat.beq (zdB x p) 9 && (Nat.ble (p + 1) m && true)) = true) : decode c p = .ok ((.lconst 0), 1) := zdDec (by
  obtain ⟨h1, h2, h3⟩ := zdQ h
  have hu := zdU1 hW (t := p) (by omega)
  rw [h1] at hu
  unfold Decoder.instr
  exact zdBd hu rfl)
set_option maxRecDepth 16384 in
theorem zdO_10 {c : ByteArray} {m x p : Nat} (hW : c.data.toList = zdBytes m x) (h : (Nat.beq (zdB x p) 10 && (Nat.ble (p + 1) m && true)) = true) : decode c p = .ok ((.lconst 1), 1) := zdDec (by
  obtain ⟨h1, h2, h3⟩ := zdQ h
  have hu := zdU1 hW (t := p) (by omega)
  rw [h1] at hu
  unfold Decoder.instr
  exact zdBd hu rfl)
set_option maxRecDepth 16384 in
theorem zdO_16 {c : ByteArray} {m x p : Nat} (hW : c.data.toList = zdBytes m x) {v : Int} (h : (Nat.beq (zdB x p) 16 && (Nat.ble (p + 2) m && decide (Reader.signed 8 (zdB x (p + 1)) = v))) = true) : decode c p = .ok ((.bipush v), 2) := zdDec (by
  obtain ⟨h1, h2, h3⟩ := zdQ h
  obtain rfl := of_decide_eq_true h3
  have hu := zdU1 hW (t := p) (by omega)
  rw [h1] at hu
  unfold Decoder.instr
  exact zdBd hu (zdBd (x := Reader.s1) (zdS1 hW (by omega)) rfl))
set_option maxRecDepth 16384 in
theorem zdO_17 {c : ByteArray} {m x p : Nat} (hW : c.data.toList = zdBytes m x) {v : Int} (h : (Nat.beq (zdB x p) 17 && (Nat.ble (p + 3) m && decide (Reader.signed 16 (zdB x (p + 1) * 256 + zdB x (p + 2)) = v))) = true) : decode c p = .ok ((.sipush v), 3) := zdDec (by
  obtain ⟨h1, h2, h3⟩ := zdQ h
  obtain rfl := of_decide_eq_true h3
  have hu := zdU1 hW (t := p) (by omega)
  rw [h1] at hu
  unfold Decoder.instr
  exact zdBd hu (zdBd (x := Reader.s2) (zdS2 hW (by omega)) rfl))
set_option maxRecDepth 16384 in
theorem zdO_18 {c : ByteArray} {m x p : Nat} (hW : c.data.toList = zdBytes m x) {v : Nat} (h : (Nat.beq (zdB x p) 18 && (Nat.ble (p + 2) m && Nat.beq (zdB x (p + 1)) v)) = true) : decode c p = .ok ((.ldc v), 2) := zdDec (by
  obtain ⟨h1, h2, h3⟩ := zdQ h
  obtain rfl := Nat.eq_of_beq_eq_true h3
  have hu := zdU1 hW (t := p) (by omega)
  rw [h1] at hu
  unfold Decoder.instr
  exact zdBd hu (zdBd (x := Reader.u1) (zdU1 hW (by omega)) rfl))
set_option maxRecDepth 16384 in
theorem zdO_20 {c : ByteArray} {m x p : Nat} (hW : c.data.toList = zdBytes m x) {v : Nat} (h : (Nat.beq (zdB x p) 20 && (Nat.ble (p + 3) m && Nat.beq (zdB x (p + 1) * 256 + zdB x (p + 2)) v)) = true) : decode c p = .ok ((.ldc2_w v), 3) := zdDec (by
  obtain ⟨h1, h2, h3⟩ := zdQ h
  obtain rfl := Nat.eq_of_beq_eq_true h3
  have hu := zdU1 hW (t := p) (by omega)
  rw [h1] at hu
  unfold Decoder.instr
  exact zdBd hu (zdBd (x := Reader.u2) (zdU2 hW (by omega)) rfl))
set_option maxRecDepth 16384 in
theorem zdO_21 {c : ByteArray} {m x p : Nat} (hW : c.data.toList = zdBytes m x) {v : Nat} (h : (Nat.beq (zdB x p) 21 && (Nat.ble (p + 2) m && Nat.beq (zdB x (p + 1)) v)) = true) : decode c p = .ok ((.iload v), 2) := zdDec (by
  obtain ⟨h1, h2, h3⟩ := zdQ h
  obtain rfl := Nat.eq_of_beq_eq_true h3
  have hu := zdU1 hW (t := p) (by omega)
  rw [h1] at hu
  unfold Decoder.instr
  exact zdBd hu (zdBd (x := Reader.u1) (zdU1 hW (by omega)) rfl))
set_option maxRecDepth 16384 in
theorem zdO_22 {c : ByteArray} {m x p : Nat} (hW : c.data.toList = zdBytes m x) {v : Nat} (h : (Nat.beq (zdB x p) 22 && (Nat.ble (p + 2) m && Nat.beq (zdB x (p + 1)) v)) = true) : decode c p = .ok ((.lload v), 2) := zdDec (by
  obtain ⟨h1, h2, h3⟩ := zdQ h
  obtain rfl := Nat.eq_of_beq_eq_true h3
  have hu := zdU1 hW (t := p) (by omega)
  rw [h1] at hu
  unfold Decoder.instr
  exact zdBd hu (zdBd (x := Reader.u1) (zdU1 hW (by omega)) rfl))
set_option maxRecDepth 16384 in
theorem zdO_25 {c : ByteArray} {m x p : Nat} (hW : c.data.toList = zdBytes m x) {v : Nat} (h : (Nat.beq (zdB x p) 25 && (Nat.ble (p + 2) m && Nat.beq (zdB x (p + 1)) v)) = true) : decode c p = .ok ((.aload v), 2) := zdDec (by
  obtain ⟨h1, h2, h3⟩ := zdQ h
  obtain rfl := Nat.eq_of_beq_eq_true h3
  have hu := zdU1 hW (t := p) (by omega)
  rw [h1] at hu
  unfold Decoder.instr
  exact zdBd hu (zdBd (x := Reader.u1) (zdU1 hW (by omega)) rfl))
set_option maxRecDepth 16384 in
theorem zdO_26 {c : ByteArray} {m x p : Nat} (hW : c.data.toList = zdBytes m x) (h : (Nat.beq (zdB x p) 26 && (Nat.ble (p + 1) m && true)) = true) : decode c p = .ok ((.iload_n 0), 1) := zdDec (by
  obtain ⟨h1, h2, h3⟩ := zdQ h
  have hu := zdU1 hW (t := p) (by omega)
  rw [h1] at hu
  unfold Decoder.instr
  exact zdBd hu rfl)
set_option maxRecDepth 16384 in
theorem zdO_27 {c : ByteArray} {m x p : Nat} (hW : c.data.toList = zdBytes m x) (h : (Nat.beq (zdB x p) 27 && (Nat.ble (p + 1) m && true)) = true) : decode c p = .ok ((.iload_n 1), 1) := zdDec (by
  obtain ⟨h1, h2, h3⟩ := zdQ h
  have hu := zdU1 hW (t := p) (by omega)
  rw [h1] at hu
  unfold Decoder.instr
  exact zdBd hu rfl)
set_option maxRecDepth 16384 in
theorem zdO_28 {c : ByteArray} {m x p : Nat} (hW : c.data.toList = zdBytes m x) (h : (Nat.beq (zdB x p) 28 && (Nat.ble (p + 1) m && true)) = true) : decode c p = .ok ((.iload_n 2), 1) := zdDec (by
  obtain ⟨h1, h2, h3⟩ := zdQ h
  have hu := zdU1 hW (t := p) (by omega)
  rw [h1] at hu
  unfold Decoder.instr
  exact zdBd hu rfl)
set_option maxRecDepth 16384 in
theorem zdO_29 {c : ByteArray} {m x p : Nat} (hW : c.data.toList = zdBytes m x) (h : (Nat.beq (zdB x p) 29 && (Nat.ble (p + 1) m && true)) = true) : decode c p = .ok ((.iload_n 3), 1) := zdDec (by
  obtain ⟨h1, h2, h3⟩ := zdQ h
  have hu := zdU1 hW (t := p) (by omega)
  rw [h1] at hu
  unfold Decoder.instr
  exact zdBd hu rfl)
set_option maxRecDepth 16384 in
theorem zdO_30 {c : ByteArray} {m x p : Nat} (hW : c.data.toList = zdBytes m x) (h : (Nat.beq (zdB x p) 30 && (Nat.ble (p + 1) m && true)) = true) : decode c p = .ok ((.lload_n 0), 1) := zdDec (by
  obtain ⟨h1, h2, h3⟩ := zdQ h
  have hu := zdU1 hW (t := p) (by omega)
  rw [h1] at hu
  unfold Decoder.instr
  exact zdBd hu rfl)
set_option maxRecDepth 16384 in
theorem zdO_31 {c : ByteArray} {m x p : Nat} (hW : c.data.toList = zdBytes m x) (h : (Nat.beq (zdB x p) 31 && (Nat.ble (p + 1) m && true)) = true) : decode c p = .ok ((.lload_n 1), 1) := zdDec (by
  obtain ⟨h1, h2, h3⟩ := zdQ h
  have hu := zdU1 hW (t := p) (by omega)
  rw [h1] at hu
  unfold Decoder.instr
  exact zdBd hu rfl)
set_option maxRecDepth 16384 in
theorem zdO_32 {c : ByteArray} {m x p : Nat} (hW : c.data.toList = zdBytes m x) (h : (Nat.beq (zdB x p) 32 && (Nat.ble (p + 1) m && true)) = true) : decode c p = .ok ((.lload_n 2), 1) := zdDec (by
  obtain ⟨h1, h2, h3⟩ := zdQ h
  have hu := zdU1 hW (t := p) (by omega)
  rw [h1] at hu
  unfold Decoder.instr
  exact zdBd hu rfl)
set_option maxRecDepth 16384 in
theorem zdO_33 {c : ByteArray} {m x p : Nat} (hW : c.data.toList = zdBytes m x) (h : (Nat.beq (zdB x p) 33 && (Nat.ble (p + 1) m && true)) = true) : decode c p = .ok ((.lload_n 3), 1) := zdDec (by
  obtain ⟨h1, h2, h3⟩ := zdQ h
  have hu := zdU1 hW (t := p) (by omega)
  rw [h1] at hu
  unfold Decoder.instr
  exact zdBd hu rfl)
set_option maxRecDepth 16384 in
theorem zdO_42 {c : ByteArray} {m x p : Nat} (hW : c.data.toList = zdBytes m x) (h : (Nat.beq (zdB x p) 42 && (Nat.ble (p + 1) m && true)) = true) : decode c p = .ok ((.aload_n 0), 1) := zdDec (by
  obtain ⟨h1, h2, h3⟩ := zdQ h
  have hu := zdU1 hW (t := p) (by omega)
  rw [h1] at hu
  unfold Decoder.instr
  exact zdBd hu rfl)
set_option maxRecDepth 16384 in
theorem zdO_43 {c : ByteArray} {m x p : Nat} (hW : c.data.toList = zdBytes m x) (h : (Nat.beq (zdB x p) 43 && (Nat.ble (p + 1) m && true)) = true) : decode c p = .ok ((.aload_n 1), 1) := zdDec (by
  obtain ⟨h1, h2, h3⟩ := zdQ h
  have hu := zdU1 hW (t := p) (by omega)
  rw [h1] at hu
  unfold Decoder.instr
  exact zdBd hu rfl)
set_option maxRecDepth 16384 in
theorem zdO_44 {c : ByteArray} {m x p : Nat} (hW : c.data.toList = zdBytes m x) (h : (Nat.beq (zdB x p) 44 && (Nat.ble (p + 1) m && true)) = true) : decode c p = .ok ((.aload_n 2), 1) := zdDec (by
  obtain ⟨h1, h2, h3⟩ := zdQ h
  have hu := zdU1 hW (t := p) (by omega)
  rw [h1] at hu
  unfold Decoder.instr
  exact zdBd hu rfl)
set_option maxRecDepth 16384 in
theorem zdO_45 {c : ByteArray} {m x p : Nat} (hW : c.data.toList = zdBytes m x) (h : (Nat.beq (zdB x p) 45 && (Nat.ble (p + 1) m && true)) = true) : decode c p = .ok ((.aload_n 3), 1) := zdDec (by
  obtain ⟨h1, h2, h3⟩ := zdQ h
  have hu := zdU1 hW (t := p) (by omega)
  rw [h1] at hu
  unfold Decoder.instr
  exact zdBd hu rfl)
set_option maxRecDepth 16384 in
theorem zdO_46 {c : ByteArray} {m x p : Nat} (hW : c.data.toList = zdBytes m x) (h : (Nat.beq (zdB x p) 46 && (Nat.ble (p + 1) m && true)) = true) : decode c p = .ok (.iaload, 1) := zdDec (by
  obtain ⟨h1, h2, h3⟩ := zdQ h
  have hu := zdU1 hW (t := p) (by omega)
  rw [h1] at hu
  unfold Decoder.instr
  exact zdBd hu rfl)
set_option maxRecDepth 16384 in
theorem zdO_47 {c : ByteArray} {m x p : Nat} (hW : c.data.toList = zdBytes m x) (h : (Nat.beq (zdB x p) 47 && (Nat.ble (p + 1) m && true)) = true) : decode c p = .ok (.laload, 1) := zdDec (by
  obtain ⟨h1, h2, h3⟩ := zdQ h
  have hu := zdU1 hW (t := p) (by omega)
  rw [h1] at hu
  unfold Decoder.instr
  exact zdBd hu rfl)
set_option maxRecDepth 16384 in
theorem zdO_50 {c : ByteArray} {m x p : Nat} (hW : c.data.toList = zdBytes m x) (h : (Nat.beq (zdB x p) 50 && (Nat.ble (p + 1) m && true)) = true) : decode c p = .ok (.aaload, 1) := zdDec (by
  obtain ⟨h1, h2, h3⟩ := zdQ h
  have hu := zdU1 hW (t := p) (by omega)
  rw [h1] at hu
  unfold Decoder.instr
  exact zdBd hu rfl)
set_option maxRecDepth 16384 in
theorem zdO_52 {c : ByteArray} {m x p : Nat} (hW : c.data.toList = zdBytes m x) (h : (Nat.beq (zdB x p) 52 && (Nat.ble (p + 1) m && true)) = true) : decode c p = .ok (.caload, 1) := zdDec (by
  obtain ⟨h1, h2, h3⟩ := zdQ h
  have hu := zdU1 hW (t := p) (by omega)
  rw [h1] at hu
  unfold Decoder.instr
  exact zdBd hu rfl)
set_option maxRecDepth 16384 in
theorem zdO_54 {c : ByteArray} {m x p : Nat} (hW : c.data.toList = zdBytes m x) {v : Nat} (h : (Nat.beq (zdB x p) 54 && (Nat.ble (p + 2) m && Nat.beq (zdB x (p + 1)) v)) = true) : decode c p = .ok ((.istore v), 2) := zdDec (by
  obtain ⟨h1, h2, h3⟩ := zdQ h
  obtain rfl := Nat.eq_of_beq_eq_true h3
  have hu := zdU1 hW (t := p) (by omega)
  rw [h1] at hu
  unfold Decoder.instr
  exact zdBd hu (zdBd (x := Reader.u1) (zdU1 hW (by omega)) rfl))
set_option maxRecDepth 16384 in
theorem zdO_55 {c : ByteArray} {m x p : Nat} (hW : c.data.toList = zdBytes m x) {v : Nat} (h : (Nat.beq (zdB x p) 55 && (Nat.ble (p + 2) m && Nat.beq (zdB x (p + 1)) v)) = true) : decode c p = .ok ((.lstore v), 2) := zdDec (by
  obtain ⟨h1, h2, h3⟩ := zdQ h
  obtain rfl := Nat.eq_of_beq_eq_true h3
  have hu := zdU1 hW (t := p) (by omega)
  rw [h1] at hu
  unfold Decoder.instr
  exact zdBd hu (zdBd (x := Reader.u1) (zdU1 hW (by omega)) rfl))
set_option maxRecDepth 16384 in
theorem zdO_58 {c : ByteArray} {m x p : Nat} (hW : c.data.toList = zdBytes m x) {v : Nat} (h : (Nat.beq (zdB x p) 58 && (Nat.ble (p + 2) m && Nat.beq (zdB x (p + 1)) v)) = true) : decode c p = .ok ((.astore v), 2) := zdDec (by
  obtain ⟨h1, h2, h3⟩ := zdQ h
  obtain rfl := Nat.eq_of_beq_eq_true h3
  have hu := zdU1 hW (t := p) (by omega)
  rw [h1] at hu
  unfold Decoder.instr
  exact zdBd hu (zdBd (x := Reader.u1) (zdU1 hW (by omega)) rfl))
set_option maxRecDepth 16384 in
theorem zdO_60 {c : ByteArray} {m x p : Nat} (hW : c.data.toList = zdBytes m x) (h : (Nat.beq (zdB x p) 60 && (Nat.ble (p + 1) m && true)) = true) : decode c p = .ok ((.istore_n 1), 1) := zdDec (by
  obtain ⟨h1, h2, h3⟩ := zdQ h
  have hu := zdU1 hW (t := p) (by omega)
  rw [h1] at hu
  unfold Decoder.instr
  exact zdBd hu rfl)
set_option maxRecDepth 16384 in
theorem zdO_61 {c : ByteArray} {m x p : Nat} (hW : c.data.toList = zdBytes m x) (h : (Nat.beq (zdB x p) 61 && (Nat.ble (p + 1) m && true)) = true) : decode c p = .ok ((.istore_n 2), 1) := zdDec (by
  obtain ⟨h1, h2, h3⟩ := zdQ h
  have hu := zdU1 hW (t := p) (by omega)
  rw [h1] at hu
  unfold Decoder.instr
  exact zdBd hu rfl)
set_option maxRecDepth 16384 in
theorem zdO_62 {c : ByteArray} {m x p : Nat} (hW : c.data.toList = zdBytes m x) (h : (Nat.beq (zdB x p) 62 && (Nat.ble (p + 1) m && true)) = true) : decode c p = .ok ((.istore_n 3), 1) := zdDec (by
  obtain ⟨h1, h2, h3⟩ := zdQ h
  have hu := zdU1 hW (t := p) (by omega)
  rw [h1] at hu
  unfold Decoder.instr
  exact zdBd hu rfl)
set_option maxRecDepth 16384 in
theorem zdO_76 {c : ByteArray} {m x p : Nat} (hW : c.data.toList = zdBytes m x) (h : (Nat.beq (zdB x p) 76 && (Nat.ble (p + 1) m && true)) = true) : decode c p = .ok ((.astore_n 1), 1) := zdDec (by
  obtain ⟨h1, h2, h3⟩ := zdQ h
  have hu := zdU1 hW (t := p) (by omega)
  rw [h1] at hu
  unfold Decoder.instr
  exact zdBd hu rfl)
set_option maxRecDepth 16384 in
theorem zdO_77 {c : ByteArray} {m x p : Nat} (hW : c.data.toList = zdBytes m x) (h : (Nat.beq (zdB x p) 77 && (Nat.ble (p + 1) m && true)) = true) : decode c p = .ok ((.astore_n 2), 1) := zdDec (by
  obtain ⟨h1, h2, h3⟩ := zdQ h
  have hu := zdU1 hW (t := p) (by omega)
  rw [h1] at hu
  unfold Decoder.instr
  exact zdBd hu rfl)
set_option maxRecDepth 16384 in
theorem zdO_78 {c : ByteArray} {m x p : Nat} (hW : c.data.toList = zdBytes m x) (h : (Nat.beq (zdB x p) 78 && (Nat.ble (p + 1) m && true)) = true) : decode c p = .ok ((.astore_n 3), 1) := zdDec (by
  obtain ⟨h1, h2, h3⟩ := zdQ h
  have hu := zdU1 hW (t := p) (by omega)
  rw [h1] at hu
  unfold Decoder.instr
  exact zdBd hu rfl)
set_option maxRecDepth 16384 in
theorem zdO_79 {c : ByteArray} {m x p : Nat} (hW : c.data.toList = zdBytes m x) (h : (Nat.beq (zdB x p) 79 && (Nat.ble (p + 1) m && true)) = true) : decode c p = .ok (.iastore, 1) := zdDec (by
  obtain ⟨h1, h2, h3⟩ := zdQ h
  have hu := zdU1 hW (t := p) (by omega)
  rw [h1] at hu
  unfold Decoder.instr
  exact zdBd hu rfl)
set_option maxRecDepth 16384 in
theorem zdO_80 {c : ByteArray} {m x p : Nat} (hW : c.data.toList = zdBytes m x) (h : (Nat.beq (zdB x p) 80 && (Nat.ble (p + 1) m && true)) = true) : decode c p = .ok (.lastore, 1) := zdDec (by
  obtain ⟨h1, h2, h3⟩ := zdQ h
  have hu := zdU1 hW (t := p) (by omega)
  rw [h1] at hu
  unfold Decoder.instr
  exact zdBd hu rfl)
set_option maxRecDepth 16384 in
theorem zdO_83 {c : ByteArray} {m x p : Nat} (hW : c.data.toList = zdBytes m x) (h : (Nat.beq (zdB x p) 83 && (Nat.ble (p + 1) m && true)) = true) : decode c p = .ok (.aastore, 1) := zdDec (by
  obtain ⟨h1, h2, h3⟩ := zdQ h
  have hu := zdU1 hW (t := p) (by omega)
  rw [h1] at hu
  unfold Decoder.instr
  exact zdBd hu rfl)
set_option maxRecDepth 16384 in
theorem zdO_85 {c : ByteArray} {m x p : Nat} (hW : c.data.toList = zdBytes m x) (h : (Nat.beq (zdB x p) 85 && (Nat.ble (p + 1) m && true)) = true) : decode c p = .ok (.castore, 1) := zdDec (by
  obtain ⟨h1, h2, h3⟩ := zdQ h
  have hu := zdU1 hW (t := p) (by omega)
  rw [h1] at hu
  unfold Decoder.instr
  exact zdBd hu rfl)
set_option maxRecDepth 16384 in
theorem zdO_87 {c : ByteArray} {m x p : Nat} (hW : c.data.toList = zdBytes m x) (h : (Nat.beq (zdB x p) 87 && (Nat.ble (p + 1) m && true)) = true) : decode c p = .ok (.pop, 1) := zdDec (by
  obtain ⟨h1, h2, h3⟩ := zdQ h
  have hu := zdU1 hW (t := p) (by omega)
  rw [h1] at hu
  unfold Decoder.instr
  exact zdBd hu rfl)
set_option maxRecDepth 16384 in
theorem zdO_89 {c : ByteArray} {m x p : Nat} (hW : c.data.toList = zdBytes m x) (h : (Nat.beq (zdB x p) 89 && (Nat.ble (p + 1) m && true)) = true) : decode c p = .ok (.dup, 1) := zdDec (by
  obtain ⟨h1, h2, h3⟩ := zdQ h
  have hu := zdU1 hW (t := p) (by omega)
  rw [h1] at hu
  unfold Decoder.instr
  exact zdBd hu rfl)
set_option maxRecDepth 16384 in
theorem zdO_92 {c : ByteArray} {m x p : Nat} (hW : c.data.toList = zdBytes m x) (h : (Nat.beq (zdB x p) 92 && (Nat.ble (p + 1) m && true)) = true) : decode c p = .ok (.dup2, 1) := zdDec (by
  obtain ⟨h1, h2, h3⟩ := zdQ h
  have hu := zdU1 hW (t := p) (by omega)
  rw [h1] at hu
  unfold Decoder.instr
  exact zdBd hu rfl)
set_option maxRecDepth 16384 in
theorem zdO_96 {c : ByteArray} {m x p : Nat} (hW : c.data.toList = zdBytes m x) (h : (Nat.beq (zdB x p) 96 && (Nat.ble (p + 1) m && true)) = true) : decode c p = .ok (.iadd, 1) := zdDec (by
  obtain ⟨h1, h2, h3⟩ := zdQ h
  have hu := zdU1 hW (t := p) (by omega)
  rw [h1] at hu
  unfold Decoder.instr
  exact zdBd hu rfl)
set_option maxRecDepth 16384 in
theorem zdO_97 {c : ByteArray} {m x p : Nat} (hW : c.data.toList = zdBytes m x) (h : (Nat.beq (zdB x p) 97 && (Nat.ble (p + 1) m && true)) = true) : decode c p = .ok (.ladd, 1) := zdDec (by
  obtain ⟨h1, h2, h3⟩ := zdQ h
  have hu := zdU1 hW (t := p) (by omega)
  rw [h1] at hu
  unfold Decoder.instr
  exact zdBd hu rfl)
set_option maxRecDepth 16384 in
theorem zdO_100 {c : ByteArray} {m x p : Nat} (hW : c.data.toList = zdBytes m x) (h : (Nat.beq (zdB x p) 100 && (Nat.ble (p + 1) m && true)) = true) : decode c p = .ok (.isub, 1) := zdDec (by
  obtain ⟨h1, h2, h3⟩ := zdQ h
  have hu := zdU1 hW (t := p) (by omega)
  rw [h1] at hu
  unfold Decoder.instr
  exact zdBd hu rfl)
set_option maxRecDepth 16384 in
theorem zdO_104 {c : ByteArray} {m x p : Nat} (hW : c.data.toList = zdBytes m x) (h : (Nat.beq (zdB x p) 104 && (Nat.ble (p + 1) m && true)) = true) : decode c p = .ok (.imul, 1) := zdDec (by
  obtain ⟨h1, h2, h3⟩ := zdQ h
  have hu := zdU1 hW (t := p) (by omega)
  rw [h1] at hu
  unfold Decoder.instr
  exact zdBd hu rfl)
set_option maxRecDepth 16384 in
theorem zdO_108 {c : ByteArray} {m x p : Nat} (hW : c.data.toList = zdBytes m x) (h : (Nat.beq (zdB x p) 108 && (Nat.ble (p + 1) m && true)) = true) : decode c p = .ok (.idiv, 1) := zdDec (by
  obtain ⟨h1, h2, h3⟩ := zdQ h
  have hu := zdU1 hW (t := p) (by omega)
  rw [h1] at hu
  unfold Decoder.instr
  exact zdBd hu rfl)
set_option maxRecDepth 16384 in
theorem zdO_112 {c : ByteArray} {m x p : Nat} (hW : c.data.toList = zdBytes m x) (h : (Nat.beq (zdB x p) 112 && (Nat.ble (p + 1) m && true)) = true) : decode c p = .ok (.irem, 1) := zdDec (by
  obtain ⟨h1, h2, h3⟩ := zdQ h
  have hu := zdU1 hW (t := p) (by omega)
  rw [h1] at hu
  unfold Decoder.instr
  exact zdBd hu rfl)
set_option maxRecDepth 16384 in
theorem zdO_120 {c : ByteArray} {m x p : Nat} (hW : c.data.toList = zdBytes m x) (h : (Nat.beq (zdB x p) 120 && (Nat.ble (p + 1) m && true)) = true) : decode c p = .ok (.ishl, 1) := zdDec (by
  obtain ⟨h1, h2, h3⟩ := zdQ h
  have hu := zdU1 hW (t := p) (by omega)
  rw [h1] at hu
  unfold Decoder.instr
  exact zdBd hu rfl)
set_option maxRecDepth 16384 in
theorem zdO_121 {c : ByteArray} {m x p : Nat} (hW : c.data.toList = zdBytes m x) (h : (Nat.beq (zdB x p) 121 && (Nat.ble (p + 1) m && true)) = true) : decode c p = .ok (.lshl, 1) := zdDec (by
  obtain ⟨h1, h2, h3⟩ := zdQ h
  have hu := zdU1 hW (t := p) (by omega)
  rw [h1] at hu
  unfold Decoder.instr
  exact zdBd hu rfl)
set_option maxRecDepth 16384 in
theorem zdO_122 {c : ByteArray} {m x p : Nat} (hW : c.data.toList = zdBytes m x) (h : (Nat.beq (zdB x p) 122 && (Nat.ble (p + 1) m && true)) = true) : decode c p = .ok (.ishr, 1) := zdDec (by
  obtain ⟨h1, h2, h3⟩ := zdQ h
  have hu := zdU1 hW (t := p) (by omega)
  rw [h1] at hu
  unfold Decoder.instr
  exact zdBd hu rfl)
set_option maxRecDepth 16384 in
theorem zdO_126 {c : ByteArray} {m x p : Nat} (hW : c.data.toList = zdBytes m x) (h : (Nat.beq (zdB x p) 126 && (Nat.ble (p + 1) m && true)) = true) : decode c p = .ok (.iand, 1) := zdDec (by
  obtain ⟨h1, h2, h3⟩ := zdQ h
  have hu := zdU1 hW (t := p) (by omega)
  rw [h1] at hu
  unfold Decoder.instr
  exact zdBd hu rfl)
set_option maxRecDepth 16384 in
theorem zdO_127 {c : ByteArray} {m x p : Nat} (hW : c.data.toList = zdBytes m x) (h : (Nat.beq (zdB x p) 127 && (Nat.ble (p + 1) m && true)) = true) : decode c p = .ok (.land, 1) := zdDec (by
  obtain ⟨h1, h2, h3⟩ := zdQ h
  have hu := zdU1 hW (t := p) (by omega)
  rw [h1] at hu
  unfold Decoder.instr
  exact zdBd hu rfl)
set_option maxRecDepth 16384 in
theorem zdO_128 {c : ByteArray} {m x p : Nat} (hW : c.data.toList = zdBytes m x) (h : (Nat.beq (zdB x p) 128 && (Nat.ble (p + 1) m && true)) = true) : decode c p = .ok (.ior, 1) := zdDec (by
  obtain ⟨h1, h2, h3⟩ := zdQ h
  have hu := zdU1 hW (t := p) (by omega)
  rw [h1] at hu
  unfold Decoder.instr
  exact zdBd hu rfl)
set_option maxRecDepth 16384 in
theorem zdO_129 {c : ByteArray} {m x p : Nat} (hW : c.data.toList = zdBytes m x) (h : (Nat.beq (zdB x p) 129 && (Nat.ble (p + 1) m && true)) = true) : decode c p = .ok (.lor, 1) := zdDec (by
  obtain ⟨h1, h2, h3⟩ := zdQ h
  have hu := zdU1 hW (t := p) (by omega)
  rw [h1] at hu
  unfold Decoder.instr
  exact zdBd hu rfl)
set_option maxRecDepth 16384 in
theorem zdO_132 {c : ByteArray} {m x p : Nat} (hW : c.data.toList = zdBytes m x) {v : Nat} {u : Int} (h : (Nat.beq (zdB x p) 132 && (Nat.ble (p + 3) m && (Nat.beq (zdB x (p + 1)) v && decide (Reader.signed 8 (zdB x (p + 2)) = u)))) = true) : decode c p = .ok ((.iinc v u), 3) := zdDec (by
  obtain ⟨h1, h2, h3⟩ := zdQ h
  rw [Bool.and_eq_true] at h3
  obtain rfl := Nat.eq_of_beq_eq_true h3.1
  obtain rfl := of_decide_eq_true h3.2
  have hu := zdU1 hW (t := p) (by omega)
  rw [h1] at hu
  unfold Decoder.instr
  exact zdBd hu (zdBd (x := Reader.u1) (zdU1 hW (by omega)) (zdBd (x := Reader.s1) (zdS1 hW (by omega)) rfl)))
set_option maxRecDepth 16384 in
theorem zdO_133 {c : ByteArray} {m x p : Nat} (hW : c.data.toList = zdBytes m x) (h : (Nat.beq (zdB x p) 133 && (Nat.ble (p + 1) m && true)) = true) : decode c p = .ok (.i2l, 1) := zdDec (by
  obtain ⟨h1, h2, h3⟩ := zdQ h
  have hu := zdU1 hW (t := p) (by omega)
  rw [h1] at hu
  unfold Decoder.instr
  exact zdBd hu rfl)
set_option maxRecDepth 16384 in
theorem zdO_136 {c : ByteArray} {m x p : Nat} (hW : c.data.toList = zdBytes m x) (h : (Nat.beq (zdB x p) 136 && (Nat.ble (p + 1) m && true)) = true) : decode c p = .ok (.l2i, 1) := zdDec (by
  obtain ⟨h1, h2, h3⟩ := zdQ h
  have hu := zdU1 hW (t := p) (by omega)
  rw [h1] at hu
  unfold Decoder.instr
  exact zdBd hu rfl)
set_option maxRecDepth 16384 in
theorem zdO_145 {c : ByteArray} {m x p : Nat} (hW : c.data.toList = zdBytes m x) (h : (Nat.beq (zdB x p) 145 && (Nat.ble (p + 1) m && true)) = true) : decode c p = .ok (.i2b, 1) := zdDec (by
  obtain ⟨h1, h2, h3⟩ := zdQ h
  have hu := zdU1 hW (t := p) (by omega)
  rw [h1] at hu
  unfold Decoder.instr
  exact zdBd hu rfl)
set_option maxRecDepth 16384 in
theorem zdO_146 {c : ByteArray} {m x p : Nat} (hW : c.data.toList = zdBytes m x) (h : (Nat.beq (zdB x p) 146 && (Nat.ble (p + 1) m && true)) = true) : decode c p = .ok (.i2c, 1) := zdDec (by
  obtain ⟨h1, h2, h3⟩ := zdQ h
  have hu := zdU1 hW (t := p) (by omega)
  rw [h1] at hu
  unfold Decoder.instr
  exact zdBd hu rfl)
set_option maxRecDepth 16384 in
theorem zdO_147 {c : ByteArray} {m x p : Nat} (hW : c.data.toList = zdBytes m x) (h : (Nat.beq (zdB x p) 147 && (Nat.ble (p + 1) m && true)) = true) : decode c p = .ok (.i2s, 1) := zdDec (by
  obtain ⟨h1, h2, h3⟩ := zdQ h
  have hu := zdU1 hW (t := p) (by omega)
  rw [h1] at hu
  unfold Decoder.instr
  exact zdBd hu rfl)
set_option maxRecDepth 16384 in
theorem zdO_148 {c : ByteArray} {m x p : Nat} (hW : c.data.toList = zdBytes m x) (h : (Nat.beq (zdB x p) 148 && (Nat.ble (p + 1) m && true)) = true) : decode c p = .ok (.lcmp, 1) := zdDec (by
  obtain ⟨h1, h2, h3⟩ := zdQ h
  have hu := zdU1 hW (t := p) (by omega)
  rw [h1] at hu
  unfold Decoder.instr
  exact zdBd hu rfl)
set_option maxRecDepth 16384 in
theorem zdO_153 {c : ByteArray} {m x p : Nat} (hW : c.data.toList = zdBytes m x) {v : Int} (h : (Nat.beq (zdB x p) 153 && (Nat.ble (p + 3) m && decide (Reader.signed 16 (zdB x (p + 1) * 256 + zdB x (p + 2)) = v))) = true) : decode c p = .ok ((.ifCond .eq v), 3) := zdDec (by
  obtain ⟨h1, h2, h3⟩ := zdQ h
  obtain rfl := of_decide_eq_true h3
  have hu := zdU1 hW (t := p) (by omega)
  rw [h1] at hu
  unfold Decoder.instr
  exact zdBd hu (zdBd (x := Reader.s2) (zdS2 hW (by omega)) rfl))
set_option maxRecDepth 16384 in
theorem zdO_154 {c : ByteArray} {m x p : Nat} (hW : c.data.toList = zdBytes m x) {v : Int} (h : (Nat.beq (zdB x p) 154 && (Nat.ble (p + 3) m && decide (Reader.signed 16 (zdB x (p + 1) * 256 + zdB x (p + 2)) = v))) = true) : decode c p = .ok ((.ifCond .ne v), 3) := zdDec (by
  obtain ⟨h1, h2, h3⟩ := zdQ h
  obtain rfl := of_decide_eq_true h3
  have hu := zdU1 hW (t := p) (by omega)
  rw [h1] at hu
  unfold Decoder.instr
  exact zdBd hu (zdBd (x := Reader.s2) (zdS2 hW (by omega)) rfl))
set_option maxRecDepth 16384 in
theorem zdO_155 {c : ByteArray} {m x p : Nat} (hW : c.data.toList = zdBytes m x) {v : Int} (h : (Nat.beq (zdB x p) 155 && (Nat.ble (p + 3) m && decide (Reader.signed 16 (zdB x (p + 1) * 256 + zdB x (p + 2)) = v))) = true) : decode c p = .ok ((.ifCond .lt v), 3) := zdDec (by
  obtain ⟨h1, h2, h3⟩ := zdQ h
  obtain rfl := of_decide_eq_true h3
  have hu := zdU1 hW (t := p) (by omega)
  rw [h1] at hu
  unfold Decoder.instr
  exact zdBd hu (zdBd (x := Reader.s2) (zdS2 hW (by omega)) rfl))
set_option maxRecDepth 16384 in
theorem zdO_156 {c : ByteArray} {m x p : Nat} (hW : c.data.toList = zdBytes m x) {v : Int} (h : (Nat.beq (zdB x p) 156 && (Nat.ble (p + 3) m && decide (Reader.signed 16 (zdB x (p + 1) * 256 + zdB x (p + 2)) = v))) = true) : decode c p = .ok ((.ifCond .ge v), 3) := zdDec (by
  obtain ⟨h1, h2, h3⟩ := zdQ h
  obtain rfl := of_decide_eq_true h3
  have hu := zdU1 hW (t := p) (by omega)
  rw [h1] at hu
  unfold Decoder.instr
  exact zdBd hu (zdBd (x := Reader.s2) (zdS2 hW (by omega)) rfl))
set_option maxRecDepth 16384 in
theorem zdO_157 {c : ByteArray} {m x p : Nat} (hW : c.data.toList = zdBytes m x) {v : Int} (h : (Nat.beq (zdB x p) 157 && (Nat.ble (p + 3) m && decide (Reader.signed 16 (zdB x (p + 1) * 256 + zdB x (p + 2)) = v))) = true) : decode c p = .ok ((.ifCond .gt v), 3) := zdDec (by
  obtain ⟨h1, h2, h3⟩ := zdQ h
  obtain rfl := of_decide_eq_true h3
  have hu := zdU1 hW (t := p) (by omega)
  rw [h1] at hu
  unfold Decoder.instr
  exact zdBd hu (zdBd (x := Reader.s2) (zdS2 hW (by omega)) rfl))
set_option maxRecDepth 16384 in
theorem zdO_158 {c : ByteArray} {m x p : Nat} (hW : c.data.toList = zdBytes m x) {v : Int} (h : (Nat.beq (zdB x p) 158 && (Nat.ble (p + 3) m && decide (Reader.signed 16 (zdB x (p + 1) * 256 + zdB x (p + 2)) = v))) = true) : decode c p = .ok ((.ifCond .le v), 3) := zdDec (by
  obtain ⟨h1, h2, h3⟩ := zdQ h
  obtain rfl := of_decide_eq_true h3
  have hu := zdU1 hW (t := p) (by omega)
  rw [h1] at hu
  unfold Decoder.instr
  exact zdBd hu (zdBd (x := Reader.s2) (zdS2 hW (by omega)) rfl))
set_option maxRecDepth 16384 in
theorem zdO_159 {c : ByteArray} {m x p : Nat} (hW : c.data.toList = zdBytes m x) {v : Int} (h : (Nat.beq (zdB x p) 159 && (Nat.ble (p + 3) m && decide (Reader.signed 16 (zdB x (p + 1) * 256 + zdB x (p + 2)) = v))) = true) : decode c p = .ok ((.if_icmp .eq v), 3) := zdDec (by
  obtain ⟨h1, h2, h3⟩ := zdQ h
  obtain rfl := of_decide_eq_true h3
  have hu := zdU1 hW (t := p) (by omega)
  rw [h1] at hu
  unfold Decoder.instr
  exact zdBd hu (zdBd (x := Reader.s2) (zdS2 hW (by omega)) rfl))
set_option maxRecDepth 16384 in
theorem zdO_160 {c : ByteArray} {m x p : Nat} (hW : c.data.toList = zdBytes m x) {v : Int} (h : (Nat.beq (zdB x p) 160 && (Nat.ble (p + 3) m && decide (Reader.signed 16 (zdB x (p + 1) * 256 + zdB x (p + 2)) = v))) = true) : decode c p = .ok ((.if_icmp .ne v), 3) := zdDec (by
  obtain ⟨h1, h2, h3⟩ := zdQ h
  obtain rfl := of_decide_eq_true h3
  have hu := zdU1 hW (t := p) (by omega)
  rw [h1] at hu
  unfold Decoder.instr
  exact zdBd hu (zdBd (x := Reader.s2) (zdS2 hW (by omega)) rfl))
set_option maxRecDepth 16384 in
theorem zdO_161 {c : ByteArray} {m x p : Nat} (hW : c.data.toList = zdBytes m x) {v : Int} (h : (Nat.beq (zdB x p) 161 && (Nat.ble (p + 3) m && decide (Reader.signed 16 (zdB x (p + 1) * 256 + zdB x (p + 2)) = v))) = true) : decode c p = .ok ((.if_icmp .lt v), 3) := zdDec (by
  obtain ⟨h1, h2, h3⟩ := zdQ h
  obtain rfl := of_decide_eq_true h3
  have hu := zdU1 hW (t := p) (by omega)
  rw [h1] at hu
  unfold Decoder.instr
  exact zdBd hu (zdBd (x := Reader.s2) (zdS2 hW (by omega)) rfl))
set_option maxRecDepth 16384 in
theorem zdO_162 {c : ByteArray} {m x p : Nat} (hW : c.data.toList = zdBytes m x) {v : Int} (h : (Nat.beq (zdB x p) 162 && (Nat.ble (p + 3) m && decide (Reader.signed 16 (zdB x (p + 1) * 256 + zdB x (p + 2)) = v))) = true) : decode c p = .ok ((.if_icmp .ge v), 3) := zdDec (by
  obtain ⟨h1, h2, h3⟩ := zdQ h
  obtain rfl := of_decide_eq_true h3
  have hu := zdU1 hW (t := p) (by omega)
  rw [h1] at hu
  unfold Decoder.instr
  exact zdBd hu (zdBd (x := Reader.s2) (zdS2 hW (by omega)) rfl))
set_option maxRecDepth 16384 in
theorem zdO_163 {c : ByteArray} {m x p : Nat} (hW : c.data.toList = zdBytes m x) {v : Int} (h : (Nat.beq (zdB x p) 163 && (Nat.ble (p + 3) m && decide (Reader.signed 16 (zdB x (p + 1) * 256 + zdB x (p + 2)) = v))) = true) : decode c p = .ok ((.if_icmp .gt v), 3) := zdDec (by
  obtain ⟨h1, h2, h3⟩ := zdQ h
  obtain rfl := of_decide_eq_true h3
  have hu := zdU1 hW (t := p) (by omega)
  rw [h1] at hu
  unfold Decoder.instr
  exact zdBd hu (zdBd (x := Reader.s2) (zdS2 hW (by omega)) rfl))
set_option maxRecDepth 16384 in
theorem zdO_164 {c : ByteArray} {m x p : Nat} (hW : c.data.toList = zdBytes m x) {v : Int} (h : (Nat.beq (zdB x p) 164 && (Nat.ble (p + 3) m && decide (Reader.signed 16 (zdB x (p + 1) * 256 + zdB x (p + 2)) = v))) = true) : decode c p = .ok ((.if_icmp .le v), 3) := zdDec (by
  obtain ⟨h1, h2, h3⟩ := zdQ h
  obtain rfl := of_decide_eq_true h3
  have hu := zdU1 hW (t := p) (by omega)
  rw [h1] at hu
  unfold Decoder.instr
  exact zdBd hu (zdBd (x := Reader.s2) (zdS2 hW (by omega)) rfl))
set_option maxRecDepth 16384 in
theorem zdO_167 {c : ByteArray} {m x p : Nat} (hW : c.data.toList = zdBytes m x) {v : Int} (h : (Nat.beq (zdB x p) 167 && (Nat.ble (p + 3) m && decide (Reader.signed 16 (zdB x (p + 1) * 256 + zdB x (p + 2)) = v))) = true) : decode c p = .ok ((.goto v), 3) := zdDec (by
  obtain ⟨h1, h2, h3⟩ := zdQ h
  obtain rfl := of_decide_eq_true h3
  have hu := zdU1 hW (t := p) (by omega)
  rw [h1] at hu
  unfold Decoder.instr
  exact zdBd hu (zdBd (x := Reader.s2) (zdS2 hW (by omega)) rfl))
set_option maxRecDepth 16384 in
theorem zdO_172 {c : ByteArray} {m x p : Nat} (hW : c.data.toList = zdBytes m x) (h : (Nat.beq (zdB x p) 172 && (Nat.ble (p + 1) m && true)) = true) : decode c p = .ok (.ireturn, 1) := zdDec (by
  obtain ⟨h1, h2, h3⟩ := zdQ h
  have hu := zdU1 hW (t := p) (by omega)
  rw [h1] at hu
  unfold Decoder.instr
  exact zdBd hu rfl)
set_option maxRecDepth 16384 in
theorem zdO_176 {c : ByteArray} {m x p : Nat} (hW : c.data.toList = zdBytes m x) (h : (Nat.beq (zdB x p) 176 && (Nat.ble (p + 1) m && true)) = true) : decode c p = .ok (.areturn, 1) := zdDec (by
  obtain ⟨h1, h2, h3⟩ := zdQ h
  have hu := zdU1 hW (t := p) (by omega)
  rw [h1] at hu
  unfold Decoder.instr
  exact zdBd hu rfl)
set_option maxRecDepth 16384 in
theorem zdO_177 {c : ByteArray} {m x p : Nat} (hW : c.data.toList = zdBytes m x) (h : (Nat.beq (zdB x p) 177 && (Nat.ble (p + 1) m && true)) = true) : decode c p = .ok (.return_, 1) := zdDec (by
  obtain ⟨h1, h2, h3⟩ := zdQ h
  have hu := zdU1 hW (t := p) (by omega)
  rw [h1] at hu
  unfold Decoder.instr
  exact zdBd hu rfl)
set_option maxRecDepth 16384 in
theorem zdO_180 {c : ByteArray} {m x p : Nat} (hW : c.data.toList = zdBytes m x) {v : Nat} (h : (Nat.beq (zdB x p) 180 && (Nat.ble (p + 3) m && Nat.beq (zdB x (p + 1) * 256 + zdB x (p + 2)) v)) = true) : decode c p = .ok ((.getfield v), 3) := zdDec (by
  obtain ⟨h1, h2, h3⟩ := zdQ h
  obtain rfl := Nat.eq_of_beq_eq_true h3
  have hu := zdU1 hW (t := p) (by omega)
  rw [h1] at hu
  unfold Decoder.instr
  exact zdBd hu (zdBd (x := Reader.u2) (zdU2 hW (by omega)) rfl))
set_option maxRecDepth 16384 in
theorem zdO_181 {c : ByteArray} {m x p : Nat} (hW : c.data.toList = zdBytes m x) {v : Nat} (h : (Nat.beq (zdB x p) 181 && (Nat.ble (p + 3) m && Nat.beq (zdB x (p + 1) * 256 + zdB x (p + 2)) v)) = true) : decode c p = .ok ((.putfield v), 3) := zdDec (by
  obtain ⟨h1, h2, h3⟩ := zdQ h
  obtain rfl := Nat.eq_of_beq_eq_true h3
  have hu := zdU1 hW (t := p) (by omega)
  rw [h1] at hu
  unfold Decoder.instr
  exact zdBd hu (zdBd (x := Reader.u2) (zdU2 hW (by omega)) rfl))
set_option maxRecDepth 16384 in
theorem zdO_182 {c : ByteArray} {m x p : Nat} (hW : c.data.toList = zdBytes m x) {v : Nat} (h : (Nat.beq (zdB x p) 182 && (Nat.ble (p + 3) m && Nat.beq (zdB x (p + 1) * 256 + zdB x (p + 2)) v)) = true) : decode c p = .ok ((.invokevirtual v), 3) := zdDec (by
  obtain ⟨h1, h2, h3⟩ := zdQ h
  obtain rfl := Nat.eq_of_beq_eq_true h3
  have hu := zdU1 hW (t := p) (by omega)
  rw [h1] at hu
  unfold Decoder.instr
  exact zdBd hu (zdBd (x := Reader.u2) (zdU2 hW (by omega)) rfl))
set_option maxRecDepth 16384 in
theorem zdO_183 {c : ByteArray} {m x p : Nat} (hW : c.data.toList = zdBytes m x) {v : Nat} (h : (Nat.beq (zdB x p) 183 && (Nat.ble (p + 3) m && Nat.beq (zdB x (p + 1) * 256 + zdB x (p + 2)) v)) = true) : decode c p = .ok ((.invokespecial v), 3) := zdDec (by
  obtain ⟨h1, h2, h3⟩ := zdQ h
  obtain rfl := Nat.eq_of_beq_eq_true h3
  have hu := zdU1 hW (t := p) (by omega)
  rw [h1] at hu
  unfold Decoder.instr
  exact zdBd hu (zdBd (x := Reader.u2) (zdU2 hW (by omega)) rfl))
set_option maxRecDepth 16384 in
theorem zdO_184 {c : ByteArray} {m x p : Nat} (hW : c.data.toList = zdBytes m x) {v : Nat} (h : (Nat.beq (zdB x p) 184 && (Nat.ble (p + 3) m && Nat.beq (zdB x (p + 1) * 256 + zdB x (p + 2)) v)) = true) : decode c p = .ok ((.invokestatic v), 3) := zdDec (by
  obtain ⟨h1, h2, h3⟩ := zdQ h
  obtain rfl := Nat.eq_of_beq_eq_true h3
  have hu := zdU1 hW (t := p) (by omega)
  rw [h1] at hu
  unfold Decoder.instr
  exact zdBd hu (zdBd (x := Reader.u2) (zdU2 hW (by omega)) rfl))
set_option maxRecDepth 16384 in
theorem zdO_187 {c : ByteArray} {m x p : Nat} (hW : c.data.toList = zdBytes m x) {v : Nat} (h : (Nat.beq (zdB x p) 187 && (Nat.ble (p + 3) m && Nat.beq (zdB x (p + 1) * 256 + zdB x (p + 2)) v)) = true) : decode c p = .ok ((.new v), 3) := zdDec (by
  obtain ⟨h1, h2, h3⟩ := zdQ h
  obtain rfl := Nat.eq_of_beq_eq_true h3
  have hu := zdU1 hW (t := p) (by omega)
  rw [h1] at hu
  unfold Decoder.instr
  exact zdBd hu (zdBd (x := Reader.u2) (zdU2 hW (by omega)) rfl))
set_option maxRecDepth 16384 in
theorem zdO_189 {c : ByteArray} {m x p : Nat} (hW : c.data.toList = zdBytes m x) {v : Nat} (h : (Nat.beq (zdB x p) 189 && (Nat.ble (p + 3) m && Nat.beq (zdB x (p + 1) * 256 + zdB x (p + 2)) v)) = true) : decode c p = .ok ((.anewarray v), 3) := zdDec (by
  obtain ⟨h1, h2, h3⟩ := zdQ h
  obtain rfl := Nat.eq_of_beq_eq_true h3
  have hu := zdU1 hW (t := p) (by omega)
  rw [h1] at hu
  unfold Decoder.instr
  exact zdBd hu (zdBd (x := Reader.u2) (zdU2 hW (by omega)) rfl))
set_option maxRecDepth 16384 in
theorem zdO_190 {c : ByteArray} {m x p : Nat} (hW : c.data.toList = zdBytes m x) (h : (Nat.beq (zdB x p) 190 && (Nat.ble (p + 1) m && true)) = true) : decode c p = .ok (.arraylength, 1) := zdDec (by
  obtain ⟨h1, h2, h3⟩ := zdQ h
  have hu := zdU1 hW (t := p) (by omega)
  rw [h1] at hu
  unfold Decoder.instr
  exact zdBd hu rfl)
