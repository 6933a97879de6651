/-! power -/
/-- (U n, - U (n - 1)) of the recurrence U (n + 1) = t U n - U (n - 1) -/
def uq (t : Int) : Nat → Int × Int
  | 0 => (0, 1)
  | n + 1 => (t * (uq t n).1 + (uq t n).2, -(uq t n).1)
def pw (t u : Int) (n : Nat) (w : Int32) : Int := if w = 0 then t * (uq t n).1 + 2 * (uq t n).2 else u * (uq t n).1
theorem uq_s1 (t : Int) (n : Nat) : (uq t (n + 1)).1 = t * (uq t n).1 + (uq t n).2 := rfl
theorem uq_s2 (t : Int) (n : Nat) : (uq t (n + 1)).2 = -(uq t n).1 := rfl
theorem uq_add (t : Int) (n : Nat) : ∀ m, (uq t (m + n)).1 = (uq t m).1 * (uq t (n + 1)).1 + (uq t m).2 * (uq t n).1 ∧ (uq t (m + n)).2 = (uq t m).1 * (uq t (n + 1)).2 + (uq t m).2 * (uq t n).2 := by
  intro m
  induction m with
  | zero =>
    rw [Nat.zero_add, show (uq t 0) = (0, 1) from rfl]
    simp
  | succ m ih =>
    obtain ⟨i1, i2⟩ := ih
    rw [show m + 1 + n = (m + n) + 1 by omega, uq_s1 t (m + n), uq_s2 t (m + n), i1, i2, uq_s1 t m, uq_s2 t m, uq_s2 t n]
    have e : (uq t n).2 = (uq t (n + 1)).1 - t * (uq t n).1 := by rw [uq_s1]; omega
    constructor
    · rw [e]
      generalize (uq t (n + 1)).1 = c
      generalize (uq t n).1 = d
      generalize (uq t m).1 = a
      generalize (uq t m).2 = b
      simp only [Int.mul_add, Int.add_mul, Int.mul_neg, Int.neg_mul, Int.mul_sub]
      have e1 : t * (a * c) = t * a * c := by ac_rfl
      have e2 : t * (b * d) = b * (t * d) := by ac_rfl
      omega
    · rw [e]
      generalize (uq t (n + 1)).1 = c
      generalize (uq t n).1 = d
      generalize (uq t m).1 = a
      generalize (uq t m).2 = b
      simp only [Int.mul_add, Int.add_mul, Int.mul_neg, Int.neg_mul, Int.mul_sub]
      have e1 : t * a * d = a * (t * d) := by ac_rfl
      omega
theorem mm2 {x y w v M : Int} : (x % M * (y % M) + w % M * (v % M)) % M = (x * y + w * v) % M := by
  rw [Int.add_emod, ← Int.mul_emod, ← Int.mul_emod, ← Int.add_emod]
theorem mm2' {a b c d M : Nat} {x y w v r : Int} (ha : (a : Int) = x % M) (hb : (b : Int) = y % M) (hc : (c : Int) = w % M) (hd : (d : Int) = v % M) (h : x * y + w * v = r) : (((a * b + c * d) % M : Nat) : Int) = r % M := by
  rw [Int.natCast_emod, Int.natCast_add, Int.natCast_mul, Int.natCast_mul, ha, hb, hc, hd, mm2, h]
def mat (t : Int) (M k a b c d : Nat) : Prop := (a : Int) = (uq t (k + 1)).1 % M ∧ (b : Int) = (uq t (k + 1)).2 % M ∧ (c : Int) = (uq t k).1 % M ∧ (d : Int) = (uq t k).2 % M
theorem mat.lt {t : Int} {M k a b c d : Nat} (hM : 0 < M) (h : mat t M k a b c d) : a < M ∧ b < M ∧ c < M ∧ d < M := by
  have q : ∀ (x : Int) (n : Nat), (n : Int) = x % (M : Int) → n < M := fun x n e => by
    have := Int.emod_lt_of_pos x (show (0 : Int) < (M : Int) by omega)
    omega
  exact ⟨q _ _ h.1, q _ _ h.2.1, q _ _ h.2.2.1, q _ _ h.2.2.2⟩
theorem mat.sq {t : Int} {M k a b c d : Nat} (h : mat t M k a b c d) : mat t M (2 * k) ((a * a + b * c) % M) ((a * b + b * d) % M) ((c * a + d * c) % M) ((c * b + d * d) % M) := by
  obtain ⟨h1, h2, h3, h4⟩ := h
  have q1 := uq_add t k (k + 1)
  have q2 := uq_add t k k
  rw [show 2 * k = k + k by omega]
  rw [show k + 1 + k = k + k + 1 by omega] at q1
  exact ⟨mm2' h1 h1 h2 h3 q1.1.symm, mm2' h1 h2 h2 h4 q1.2.symm, mm2' h3 h1 h4 h3 q2.1.symm, mm2' h3 h2 h4 h4 q2.2.symm⟩
theorem mat.st {t : Int} {M k a b c d t9 p n o : Nat} (hM : 0 < M) (h : mat t M k a b c d) (ht : (t9 : Int) = t % M) (hp : p = M - 1) (hn : n = 1 % M) (ho : o = 0) : mat t M (k + 1) ((a * t9 + b * n) % M) ((a * p + b * o) % M) ((c * t9 + d * n) % M) ((c * p + d * o) % M) := by
  obtain ⟨h1, h2, h3, h4⟩ := h
  have hn1 : (n : Int) = 1 % M := by rw [hn]; rfl
  have ho1 : (o : Int) = 0 % M := by rw [ho, Int.zero_emod]; rfl
  have hp1 : (p : Int) = (-1) % M := by
    rw [hp]
    rw [← Int.add_mul_emod_self_left (-1) (M : Int) 1, Int.mul_one, Int.emod_eq_of_lt (by omega) (by omega)]
    omega
  have e : ∀ j, (uq t j).1 * t + (uq t j).2 * 1 = (uq t (j + 1)).1 := fun j => by rw [uq_s1, Int.mul_comm t, Int.mul_one]
  have e2 : ∀ j, (uq t j).1 * -1 + (uq t j).2 * 0 = (uq t (j + 1)).2 := fun j => by rw [uq_s2]; omega
  exact ⟨mm2' h1 ht h2 hn1 (e _), mm2' h1 hp1 h2 ho1 (e2 _), mm2' h3 ht h4 hn1 (e _), mm2' h3 hp1 h4 ho1 (e2 _)⟩
theorem mat.one (t : Int) (M : Nat) : mat t M 0 (1 % M) (0 : Nat) (0 : Nat) (1 % M) := by
  refine ⟨?_, ?_, ?_, ?_⟩ <;> simp [uq]
theorem bit31 : ∀ q, q < 31 → (((nI q) &&& 31).toBitVec.smod 32).toNat = q := by decide
theorem shr_bit {N q : Nat} (hN : N < 2 ^ 31) (hq : q < 31) : (nI N >>> (nI q &&& 31)) &&& 1 = nI (N / 2 ^ q % 2) := by
  have h2 : N / 2 ^ q ≤ N := Nat.div_le_self _ _
  rw [pk_shrN hN _ q (bit31 q hq)]
  exact pk_andN (by omega) 1 (by decide)
theorem half_bit {N q : Nat} : 2 * (N / 2 ^ (q + 1)) + N / 2 ^ q % 2 = N / 2 ^ q := by
  rw [Nat.pow_succ, ← Nat.div_div_eq_div_mul]
  omega
set_option maxHeartbeats 4000000 in
set_option maxRecDepth 100000 in
theorem cm_times2 (l : Launch) (z : YM) (sz : Nat) (g : SM) {M a b c9 e9 n0 n1 n2 n3 : Nat} {v1 v2 v3 v4 v5 : Int64} (w1 : v1 = lN a) (w2 : v2 = lN b) (w3 : v3 = lN c9) (w4 : v4 = lN e9) (w5 : v5 = lN M) (hM0 : 0 < M) (hM : M < 2 ^ 31) (ha : a < M) (hb9 : b < M) (hc : c9 < M) (he : e9 < M) (h0 : n0 < M) (h1 : n1 < M) (h2 : n2 < M) (h3 : n3 < M) (q0 : g.2.2.2.2.1 0 = lN n0) (q1 : g.2.2.2.2.1 1 = lN n1) (q2 : g.2.2.2.2.1 2 = lN n2) (q3 : g.2.2.2.2.1 3 = lN n3) : Met l y_M_times (zw y_M_times b_M_times 19 none) { frames := 0, cells := 0, slots := 0, locals := 0 } (va_Pc [.ref (oM z), .long v1, .long v2, .long v3, .long v4, .long v5] (mI z g sz)) (va_Qv (fun g2 => g2 = mX (mX (mX (mX g 0 (lN ((n0 * a + n1 * c9) % M))) 1 (lN ((n0 * b + n1 * e9) % M))) 2 (lN ((n2 * a + n3 * c9) % M))) 3 (lN ((n2 * b + n3 * e9) % M))) (mO z sz) (yA z sz)) 0 0 (yA z sz) := by
  subst w1 w2 w3 w4 w5
  exact cm_times l z sz g hM0 hM ha hb9 hc he h0 h1 h2 h3 q0 q1 q2 q3
