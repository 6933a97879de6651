/-! THE RING, as the class walks it: numbers alone -/
theorem red_flip {D r b A c : Nat} (h1 : r * r < D) (h2 : D < (r + 1) * (r + 1)) (hb : b ≤ r) (e : D = b * b + 4 * (A * c)) (hA1 : r + 1 ≤ b + 2 * A) (hA2 : 2 * A ≤ b + r) : r + 1 ≤ b + 2 * c ∧ 2 * c ≤ b + r := by
  obtain ⟨t, rfl⟩ : ∃ t, r = b + t := ⟨r - b, by omega⟩
  have e4 : (2 * A) * (2 * c) = 4 * (A * c) := by rw [Nat.mul_mul_mul_comm]
  constructor
  · apply Classical.byContradiction
    intro q
    have h3 : (2 * A) * (2 * c) ≤ (b + (b + t)) * t := Nat.mul_le_mul hA2 (by omega)
    have h4 : (b + (b + t)) * t = b * t + (b * t + t * t) := by rw [Nat.add_mul, Nat.add_mul]
    have h5 : (b + t) * (b + t) = b * b + b * t + (b * t + t * t) := by rw [Nat.add_mul, Nat.mul_add, Nat.mul_add, Nat.mul_comm t b]
    omega
  · apply Classical.byContradiction
    intro q
    have h3 : (t + 1) * (b + (b + t) + 1) ≤ (2 * A) * (2 * c) := Nat.mul_le_mul (by omega) (by omega)
    have h4 : (t + 1) * (b + (b + t) + 1) = b * t + b * t + t * t + t + (b + (b + t) + 1) := by
      rw [Nat.add_mul, Nat.one_mul, Nat.mul_add, Nat.mul_add, Nat.mul_add, Nat.mul_comm t b]
      omega
    have h5 : (b + t + 1) * (b + t + 1) = b * b + b * t + (b * t + t * t) + (b + t) + (b + t) + 1 := by
      rw [Nat.add_mul, Nat.add_mul, Nat.mul_add, Nat.mul_add, Nat.mul_add, Nat.mul_add, Nat.mul_comm t b]
      omega
    omega
/-- a reduced pair: b, and the number c behind it; A the one ahead of it -/
def Red (D r A b c : Nat) : Prop := b ≤ r ∧ 1 ≤ A ∧ 1 ≤ c ∧ D = b * b + 4 * (A * c) ∧ r + 1 ≤ b + 2 * c ∧ 2 * c ≤ b + r
/-- the next b and the next c -/
def nxB (r b c : Nat) : Nat := 2 * c * ((b + r) / (2 * c)) - b
def nxC (D r b c : Nat) : Nat := (D - nxB r b c * nxB r b c) / (4 * c)
theorem nx_q {r b c : Nat} (hc : 1 ≤ c) (h : 2 * c ≤ b + r) : 1 ≤ (b + r) / (2 * c) := (Nat.le_div_iff_mul_le (by omega)).mpr (by omega)
theorem nx_b {r b c : Nat} (hb : b ≤ r) (hc : 1 ≤ c) (h1 : r + 1 ≤ b + 2 * c) (h2 : 2 * c ≤ b + r) : b ≤ 2 * c * ((b + r) / (2 * c)) ∧ 1 ≤ nxB r b c ∧ nxB r b c ≤ r ∧ r + 1 ≤ nxB r b c + 2 * c ∧ 2 * c ≤ nxB r b c + r := by
  have hq := nx_q hc h2
  have e := Nat.div_add_mod (b + r) (2 * c)
  have hm := Nat.mod_lt (b + r) (show 0 < 2 * c by omega)
  unfold nxB
  generalize (b + r) / (2 * c) = q at hq e
  generalize (b + r) % (2 * c) = w at e hm
  have h3 : 2 * c * 1 ≤ 2 * c * q := Nat.mul_le_mul_left _ hq
  generalize 2 * c * q = X at h3 e
  omega
theorem nx_c {D r A b c : Nat} (h0 : r * r < D) (h : Red D r A b c) : D = nxB r b c * nxB r b c + 4 * (c * nxC D r b c) ∧ 1 ≤ nxC D r b c := by
  obtain ⟨hb, hA, hc, e, h1, h2⟩ := h
  obtain ⟨k1, k2, k3, k4, k5⟩ := nx_b hb hc h1 h2
  have hx : nxB r b c * nxB r b c ≤ r * r := Nat.mul_le_mul k3 k3
  have hd : ∃ t, D = nxB r b c * nxB r b c + 4 * c * t := by
    obtain ⟨q, eq⟩ : ∃ q, q = (b + r) / (2 * c) := ⟨_, rfl⟩
    have eB : nxB r b c + b = 2 * c * q := by unfold nxB; rw [← eq] at k1 ⊢; omega
    generalize nxB r b c = B at eB hx
    -- B = 2 c q - b; D - B B = 4 c (A + q b - c q q); in numbers: A + q b = t + c q q
    have e1 : B * B + 2 * (B * b) + b * b = 4 * c * (c * q * q) := by
      have : (B + b) * (B + b) = (2 * c * q) * (2 * c * q) := by rw [eB]
      rw [Nat.add_mul, Nat.mul_add, Nat.mul_add, Nat.mul_comm b B] at this
      have e2 : 2 * c * q * (2 * c * q) = 4 * c * (c * q * q) := by
        rw [show 4 * c * (c * q * q) = (2 * 2) * c * (c * q * q) from rfl]
        ac_rfl
      omega
    have e3 : 2 * (B * b) + 2 * (b * b) = 4 * c * (q * b) := by
      have : (B + b) * b = 2 * c * q * b := by rw [eB]
      rw [Nat.add_mul] at this
      have e2 : 4 * c * (q * b) = 2 * (2 * c * q * b) := by
        simp only [Nat.mul_assoc]
        omega
      omega
    have e5 : D + 4 * c * (c * q * q) = B * B + 4 * c * (A + q * b) := by
      rw [Nat.mul_add (4 * c)]
      have : 4 * (A * c) = 4 * c * A := by rw [Nat.mul_comm A c, Nat.mul_assoc]
      omega
    have e6 : c * q * q ≤ A + q * b := by
      apply Classical.byContradiction
      intro w
      have := Nat.mul_le_mul_left (4 * c) (show A + q * b ≤ c * q * q by omega)
      omega
    refine ⟨A + q * b - c * q * q, ?_⟩
    rw [Nat.mul_sub]
    have := Nat.mul_le_mul_left (4 * c) e6
    omega
  obtain ⟨t, ht⟩ := hd
  have et : nxC D r b c = t := by
    unfold nxC
    rw [show D - nxB r b c * nxB r b c = 4 * c * t by omega]
    exact Nat.mul_div_cancel_left t (by omega)
  rw [et]
  refine ⟨by rw [← Nat.mul_assoc]; exact ht, ?_⟩
  rcases Nat.eq_zero_or_pos t with h | h
  · rw [h, Nat.mul_zero] at ht; omega
  · exact h
theorem Red.next {D r A b c : Nat} (h0 : r * r < D) (h3 : D < (r + 1) * (r + 1)) (h : Red D r A b c) : Red D r c (nxB r b c) (nxC D r b c) := by
  obtain ⟨e1, e2⟩ := nx_c h0 h
  obtain ⟨hb, hA, hc, e, h1, h2⟩ := h
  obtain ⟨k1, k2, k3, k4, k5⟩ := nx_b hb hc h1 h2
  obtain ⟨f1, f2⟩ := red_flip h0 h3 k3 e1 k4 k5
  exact ⟨k3, hc, e2, e1, f1, f2⟩
