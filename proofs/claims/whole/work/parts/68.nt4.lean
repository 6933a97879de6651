/-! the walk's end, and how great its numbers become -/
def qL : List (Nat × Nat) → Nat
  | [] => 1
  | p :: h => qL h * p.2
theorem qL_pos {D r b0 c0 : Nat} : ∀ (h : List (Nat × Nat)) (A b c : Nat), Hist D r b0 c0 h A b c → 1 ≤ qL h := by
  intro h
  induction h with
  | nil => intro A b c _; exact Nat.le_refl _
  | cons p h ih =>
    intro A b c ⟨e0, e1, e2, e3, B, hB⟩
    rw [qL]
    exact Nat.mul_pos (ih B p.1 p.2 hB) (by omega)
theorem Hist.fin {D r b0 c0 : Nat} (h0 : r * r < D) (h3 : D < (r + 1) * (r + 1)) (hF : Red D r 1 b0 c0) (hr : r ≤ 1024) (hD : D % 4 ≤ 1) : ∀ (f : Nat) (h : List (Nat × Nat)) (A b c : Nat), Hist D r b0 c0 h A b c → 511041 ≤ h.length + f → wkF D r f b c := by
  intro f
  induction f with
  | zero =>
    intro h A b c hh hl
    have h1 := hh.weight h0 h3 hF hr
    have h2 := SG_bd hD
    have h4 := swL_len (h.map cdP)
    rw [List.length_map] at h4
    omega
  | succ f ih =>
    intro h A b c hh hl
    show c ≤ 1 ∨ _
    by_cases w : c ≤ 1
    · exact Or.inl w
    · exact Or.inr (ih ((b, c) :: h) c _ _ ⟨by show 2 ≤ c; omega, rfl, rfl, rfl, A, hh⟩ (by rw [List.length_cons]; omega))
/-- one step: X' by twice c is at most X by b' + s -/
theorem nx_X {D r A b c L B : Nat} (h0 : r * r < D) (h3 : D < (r + 1) * (r + 1)) (h : Red D r A b c) : 2 * c * (((b + r) / (2 * c) * L + B) * (nxB r b c + (r + 1)) + 2 * nxC D r b c * L) ≤ (nxB r b c + (r + 1)) * (L * (b + (r + 1)) + 2 * c * B) := by
  obtain ⟨e1, e2⟩ := nx_c h0 h
  obtain ⟨hb, hA, hc, e, h1, h2⟩ := h
  obtain ⟨k1, k2, k3, k4, k5⟩ := nx_b hb hc h1 h2
  have eB : nxB r b c + b = 2 * c * ((b + r) / (2 * c)) := by unfold nxB; omega
  generalize (b + r) / (2 * c) = q at eB k1
  generalize nxB r b c = b' at *
  generalize nxC D r b c = c' at *
  obtain ⟨s, hs⟩ : ∃ s, r + 1 = s := ⟨_, rfl⟩
  rw [hs] at h3 ⊢
  obtain ⟨t, rfl⟩ : ∃ t, s = b' + t := ⟨s - b', by omega⟩
  have g1 : 2 * c * (2 * c' * L) ≤ t * (b' + (b' + t)) * L := by
    have : 2 * c * (2 * c') ≤ t * (b' + (b' + t)) := by
      have a1 : 2 * c * (2 * c') = 4 * (c * c') := by rw [Nat.mul_mul_mul_comm]
      have a2 : (b' + t) * (b' + t) = b' * b' + t * (b' + (b' + t)) := by
        rw [Nat.add_mul, Nat.mul_add, Nat.mul_add, Nat.mul_add, Nat.mul_add, Nat.mul_comm t b']; omega
      omega
    calc 2 * c * (2 * c' * L) = 2 * c * (2 * c') * L := by ac_rfl
      _ ≤ _ := Nat.mul_le_mul_right _ this
  have g2 : 2 * c * ((q * L + B) * (b' + (b' + t))) = (b' + (b' + t)) * ((b' + b) * L + 2 * c * B) := by
    rw [eB, Nat.mul_comm (b' + (b' + t)), ← Nat.mul_assoc]
    congr 1
    rw [Nat.mul_add, Nat.mul_assoc (2 * c) q L]
  rw [Nat.mul_add, g2]
  have g3 : t * (b' + (b' + t)) * L = (b' + (b' + t)) * (t * L) := by ac_rfl
  rw [g3] at g1
  refine Nat.le_trans (Nat.add_le_add_left g1 _) (Nat.le_of_eq ?_)
  rw [← Nat.mul_add]
  congr 1
  rw [Nat.mul_comm L, Nat.add_mul, Nat.add_mul, Nat.add_mul]
  omega
theorem Hist.grow {D r b0 c0 : Nat} (h0 : r * r < D) (h3 : D < (r + 1) * (r + 1)) (hF : Red D r 1 b0 c0) (hr : r ≤ 1024) (hD : D % 4 ≤ 1) : ∀ (f : Nat) (h : List (Nat × Nat)) (A b c k L B : Nat), Hist D r b0 c0 h A b c → 511041 ≤ h.length + f → qL h * (L * (b + (r + 1)) + 2 * c * B) ≤ 1025 ^ h.length * (b + (r + 1)) → ∃ h' A' b' c', Hist D r b0 c0 h' A' b' c' ∧ qL h' * ((wkZ D r f b c k L B).2.1 * (b' + (r + 1)) + 2 * c' * (wkZ D r f b c k L B).2.2) ≤ 1025 ^ h'.length * (b' + (r + 1)) := by
  intro f
  induction f with
  | zero => intro h A b c k L B hh _ hi; exact ⟨h, A, b, c, hh, hi⟩
  | succ f ih =>
    intro h A b c k L B hh hl hi
    rw [wkZ]
    split
    · exact ⟨h, A, b, c, hh, hi⟩
    · rename_i w
      refine ih ((b, c) :: h) c _ _ (k + 1) _ L ⟨by show 2 ≤ c; omega, rfl, rfl, rfl, A, hh⟩ (by rw [List.length_cons]; omega) ?_
      have hR := hh.red h0 h3 hF
      have hx := nx_X (L := L) (B := B) h0 h3 hR
      rw [qL, List.length_cons]
      generalize ((b + r) / (2 * c) * L + B) * (nxB r b c + (r + 1)) + 2 * nxC D r b c * L = X' at *
      generalize L * (b + (r + 1)) + 2 * c * B = X at *
      generalize nxB r b c + (r + 1) = y at *
      show qL h * c * X' ≤ _
      have a1 : qL h * (2 * c * X') ≤ qL h * (y * X) := Nat.mul_le_mul_left _ hx
      have a2 : y * (qL h * X) ≤ y * (1025 ^ h.length * (b + (r + 1))) := Nat.mul_le_mul_left _ hi
      have a3 : y * (1025 ^ h.length * (b + (r + 1))) ≤ y * (1025 ^ h.length * (2 * 1025)) := Nat.mul_le_mul_left _ (Nat.mul_le_mul_left _ (by have := hR.1; omega))
      have a4 : qL h * (2 * c * X') = 2 * (qL h * c * X') := by ac_rfl
      have a5 : qL h * (y * X) = y * (qL h * X) := by ac_rfl
      have a6 : y * (1025 ^ h.length * (2 * 1025)) = 2 * (1025 ^ (h.length + 1) * y) := by rw [Nat.pow_succ]; ac_rfl
      omega
theorem pw_swL : ∀ (h : List (Nat × Nat)), (∀ p, p ∈ h → 1 ≤ p.2) → (1025 ^ h.length) ^ 64 ≤ 2 ^ swL (h.map cdP) * qL h ^ 64 := by
  intro h
  induction h with
  | nil => intro _; show (1025 ^ 0) ^ 64 ≤ 2 ^ 0 * 1 ^ 64; decide
  | cons p h ih =>
    intro hp
    have i1 := ih (fun q hq => hp q (List.mem_cons_of_mem _ hq))
    have i2 := lgW_spec (hp p List.mem_cons_self)
    rw [List.map_cons, swL, List.length_cons, qL, Nat.pow_succ (n := 1025) (m := h.length), Nat.mul_pow, Nat.mul_pow, Nat.pow_add]
    show _ ≤ 2 ^ lgW p.2 * _ * _
    refine Nat.le_trans (Nat.mul_le_mul i1 i2) (Nat.le_of_eq ?_)
    ac_rfl
/-- T, and all that comes of it, stays far below what rows hold -/
theorem wz_bd {D r b0 c0 : Nat} (h0 : r * r < D) (h3 : D < (r + 1) * (r + 1)) (hF : Red D r 1 b0 c0) (hr : r ≤ 1024) (hD : D % 4 ≤ 1) : wkF D r 999999 b0 c0 ∧ (b0 * (wkZ D r 999999 b0 c0 1 1 0).2.1 + 2 * (wkZ D r 999999 b0 c0 1 1 0).2.2) ^ 64 ≤ 2 ^ 511808 := by
  have hs : Hist D r b0 c0 [] 1 b0 c0 := ⟨rfl, rfl, rfl⟩
  refine ⟨Hist.fin h0 h3 hF hr hD 999999 [] 1 b0 c0 hs (by show 511041 ≤ 0 + 999999; omega), ?_⟩
  obtain ⟨h, A, b, c, hh, hi⟩ := Hist.grow h0 h3 hF hr hD 999999 [] 1 b0 c0 1 1 0 hs (by show 511041 ≤ 0 + 999999; omega) (by show 1 * (1 * (b0 + (r + 1)) + 2 * c0 * 0) ≤ 1 * (b0 + (r + 1)); omega)
  generalize (wkZ D r 999999 b0 c0 1 1 0).2.1 = L at *
  generalize (wkZ D r 999999 b0 c0 1 1 0).2.2 = B at *
  have hR := hh.red h0 h3 hF
  have hq := qL_pos h A b c hh
  have hw := hh.weight h0 h3 hF hr
  have hsg := SG_bd hD
  have hp := pw_swL h (fun p hp => by have := (hh.sub h A b c p hp).1; omega)
  have hX : b0 * L + 2 * B ≤ L * (b + (r + 1)) + 2 * c * B := by
    have a1 : b0 * L ≤ (b + (r + 1)) * L := Nat.mul_le_mul_right _ (by have := hF.1; omega)
    have a2 : 2 * 1 * B ≤ 2 * c * B := Nat.mul_le_mul_right _ (Nat.mul_le_mul_left _ hR.2.2.1)
    rw [Nat.mul_comm] at a1
    rw [Nat.mul_comm L]
    rw [Nat.mul_comm L] at a1
    omega
  have h4 : qL h * (b0 * L + 2 * B) ≤ 1025 ^ h.length * 4096 := Nat.le_trans (Nat.mul_le_mul_left _ hX) (Nat.le_trans hi (Nat.mul_le_mul_left _ (by have := hR.1; omega)))
  have h5 := Nat.pow_le_pow_left h4 64
  rw [Nat.mul_pow, Nat.mul_pow] at h5
  have h6 : qL h ^ 64 * (b0 * L + 2 * B) ^ 64 ≤ qL h ^ 64 * (2 ^ swL (h.map cdP) * 4096 ^ 64) := by
    refine Nat.le_trans h5 (Nat.le_trans (Nat.mul_le_mul_right _ hp) (Nat.le_of_eq ?_))
    ac_rfl
  have h7 := Nat.le_of_mul_le_mul_left h6 (Nat.pow_pos (by omega))
  refine Nat.le_trans h7 ?_
  rw [show (4096 : Nat) ^ 64 = 2 ^ 768 from by decide +kernel, ← Nat.pow_add]
  exact Nat.pow_le_pow_right (by decide) (by omega)
theorem nt_all (D : Nat) (h : dOk D) : NTok D := by
  have hF := first_red h
  obtain ⟨a1, a2, a3, a4, a5, a6⟩ := h
  obtain ⟨w1, w2⟩ := wz_bd a4 a5 hF a3 a6
  refine ⟨w1, ?_⟩
  have e : (fB D * (wkZ D (rt D) 999999 (fB D) (fC D) 1 1 0).2.1 + 2 * (wkZ D (rt D) 999999 (fB D) (fC D) 1 1 0).2.2) = zT D := rfl
  rw [e] at w2
  rw [BB_def]
  obtain ⟨P, hP⟩ : ∃ P, P = 2 ^ 7997 := ⟨_, rfl⟩
  have h1 : zT D ≤ P := by
    refine Nat.le_of_not_lt (fun q => ?_)
    have h2 := Nat.pow_lt_pow_left q (show 64 ≠ 0 by decide)
    rw [hP, ← Nat.pow_mul] at h2
    exact Nat.lt_irrefl _ (Nat.lt_of_lt_of_le h2 w2)
  have h3 := Nat.mul_le_mul h1 h1
  have h4 : 2 ^ 16000 = P * P * 64 := by rw [hP, ← Nat.pow_add, show 64 = 2 ^ 6 from rfl, ← Nat.pow_add]
  have h5 : 1 ≤ P := by rw [hP]; exact Nat.pow_pos (by decide)
  have h6 : 1 * 1 ≤ P * P := Nat.mul_le_mul h5 h5
  rw [h4]
  omega
