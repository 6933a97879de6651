/-! MY NUMBERS: an Int32 as an unsigned word (wn), an Int64 as an unsigned number (uN, out of laws/BITS.to-paste), a row of words as a number (vl), base 2^32. -/
def uN (x : Int64) : Nat := x.toUInt64.toNat
theorem uN_lt (x : Int64) : uN x < 18446744073709551616 := x.toUInt64.toNat_lt
theorem uN_inj {x y : Int64} (h : uN x = uN y) : x = y := congrArg UInt64.toInt64 (UInt64.toNat_inj.mp h)
theorem uN_add (x y : Int64) : uN (x + y) = (uN x + uN y) % 18446744073709551616 := by
  show (x.toUInt64 + y.toUInt64).toNat = _
  exact UInt64.toNat_add _ _
theorem uN_mul (x y : Int64) : uN (x * y) = (uN x * uN y) % 18446744073709551616 := by
  show (x.toUInt64 * y.toUInt64).toNat = _
  exact UInt64.toNat_mul _ _
theorem uN_shr (x : Int64) (s : UInt64) : uN (x.toUInt64 >>> s).toInt64 = uN x / 2 ^ (s.toNat % 64) := by
  show (x.toUInt64 >>> s).toNat = _
  rw [UInt64.toNat_shiftRight, Nat.shiftRight_eq_div_pow]
  rfl
theorem uN_s32 (x : Int64) : uN (x.toUInt64 >>> ((32 : Int32).toInt64.toUInt64 &&& Int64.toUInt64 63)).toInt64 = uN x / 4294967296 := by
  have h : ((32 : Int32).toInt64.toUInt64 &&& Int64.toUInt64 63).toNat % 64 = 32 := by decide
  rw [uN_shr, h]
theorem uN_lo (x : Int64) : uN (x &&& 4294967295) = uN x % 4294967296 := by
  show (x.toUInt64 &&& Int64.toUInt64 4294967295).toNat = _
  rw [UInt64.toNat_and]
  exact Nat.and_two_pow_sub_one_eq_mod _ 32
theorem uN_int (x : Int64) : x.toInt = if 2 * uN x < 18446744073709551616 then (uN x : Int) else (uN x : Int) - 18446744073709551616 := BitVec.toInt_eq_toNat_cond _
def wn (x : Int32) : Nat := x.toUInt32.toNat
theorem wn_lt (x : Int32) : wn x < 4294967296 := x.toUInt32.toNat_lt
theorem wn_inj {x y : Int32} (h : wn x = wn y) : x = y := congrArg UInt32.toInt32 (UInt32.toNat_inj.mp h)
theorem wn_int (x : Int32) : x.toInt = if 2 * wn x < 4294967296 then (wn x : Int) else (wn x : Int) - 4294967296 := BitVec.toInt_eq_toNat_cond _
theorem wn_0 : wn 0 = 0 := rfl
theorem uN_0 : uN 0 = 0 := rfl
theorem uN_ext (x : Int32) : uN x.toInt64 % 4294967296 = wn x := by
  have h1 := uN_int x.toInt64
  have h2 := wn_int x
  rw [Jvm.Kit.i64_of_i32] at h1
  have h3 := uN_lt x.toInt64
  have h4 := wn_lt x
  split at h1 <;> split at h2 <;> omega
theorem uN_w (x : Int32) : uN (x.toInt64 &&& 4294967295) = wn x := by rw [uN_lo, uN_ext]
theorem wn_l2i (y : Int64) : wn y.toInt32 = uN y % 4294967296 := by
  have h := Int64.toInt_toInt32 y
  rw [Int.bmod_def] at h
  have h1 := uN_int y
  have h2 := wn_int y.toInt32
  have h3 := uN_lt y
  have h4 := wn_lt y.toInt32
  split at h1 <;> split at h2 <;> split at h <;> omega
theorem uN_of_nonneg {x : Int64} (h : 0 ≤ x.toInt) : (uN x : Int) = x.toInt := by
  have h1 := uN_int x
  have h3 := uN_lt x
  split at h1 <;> omega
theorem wn_of_nonneg {x : Int32} (h : 0 ≤ x.toInt) : (wn x : Int) = x.toInt := by
  have h1 := wn_int x
  have h3 := wn_lt x
  split at h1 <;> omega
theorem uN_add' {x y : Int64} (h : uN x + uN y < 18446744073709551616) : uN (x + y) = uN x + uN y := by rw [uN_add, Nat.mod_eq_of_lt h]
theorem uN_mul' {x y : Int64} (h : uN x * uN y < 18446744073709551616) : uN (x * y) = uN x * uN y := by rw [uN_mul, Nat.mod_eq_of_lt h]
/-- a row of words as a number -/
def vl (f : Nat → Int32) : Nat → Nat
  | 0 => 0
  | n + 1 => vl f n + wn (f n) * 4294967296 ^ n
theorem vl_s (f : Nat → Int32) (n : Nat) : vl f (n + 1) = vl f n + wn (f n) * 4294967296 ^ n := rfl
theorem vl_lt (f : Nat → Int32) : ∀ n, vl f n < 4294967296 ^ n := by
  intro n
  induction n with
  | zero => exact Nat.one_pos
  | succ n ih =>
    have h := wn_lt (f n)
    have h2 : (wn (f n) + 1) * 4294967296 ^ n ≤ 4294967296 * 4294967296 ^ n := Nat.mul_le_mul_right _ (by omega)
    rw [Nat.add_mul, Nat.one_mul] at h2
    rw [vl_s, Nat.pow_succ]
    omega
theorem vl_congr {f g : Nat → Int32} : ∀ {n : Nat}, (∀ j, j < n → f j = g j) → vl f n = vl g n := by
  intro n
  induction n with
  | zero => intro _; rfl
  | succ n ih =>
    intro h
    rw [vl_s, vl_s, ih (fun j hj => h j (by omega)), h n (by omega)]
theorem vl_upd {f : Nat → Int32} {k n : Nat} {x : Int32} (h : n ≤ k) : vl (upd f k x) n = vl f n := vl_congr fun j hj => pk_un (by omega)
theorem vl_upds {f : Nat → Int32} {k : Nat} {x : Int32} : vl (upd f k x) (k + 1) = vl f k + wn x * 4294967296 ^ k := by rw [vl_s, vl_upd (Nat.le_refl k), pk_us]
theorem pB (k : Nat) : 0 < 4294967296 ^ k := Nat.pow_pos (by decide)
theorem vl_hi {f : Nat → Int32} {n k : Nat} (h : n ≤ k) : vl f n / 4294967296 ^ k = 0 :=
  Nat.div_eq_of_lt (Nat.lt_of_lt_of_le (vl_lt f n) (Nat.pow_le_pow_right (by decide) h))
theorem vl_word (f : Nat → Int32) (k : Nat) : ∀ n, k < n → vl f n / 4294967296 ^ k % 4294967296 = wn (f k) := by
  intro n
  induction n with
  | zero => intro h; omega
  | succ n ih =>
    intro h
    rw [vl_s]
    rcases Nat.lt_or_ge k n with h1 | h1
    · obtain ⟨d, rfl⟩ : ∃ d, n = k + 1 + d := ⟨n - k - 1, by omega⟩
      have e : wn (f (k + 1 + d)) * 4294967296 ^ (k + 1 + d) = 4294967296 ^ k * (4294967296 * (wn (f (k + 1 + d)) * 4294967296 ^ d)) := by
        rw [Nat.pow_add, Nat.pow_succ]
        ac_rfl
      rw [e, Nat.add_mul_div_left _ _ (pB k), Nat.add_mul_mod_self_left]
      exact ih h1
    · have e : k = n := by omega
      subst e
      rw [Nat.add_mul_div_right _ _ (pB k), vl_hi (Nat.le_refl k), Nat.zero_add]
      exact Nat.mod_eq_of_lt (wn_lt _)
/-- one word of a product's row -/
theorem vl_step {V c P X S w : Nat} (c' : Nat) (h : V + c * P = S * X) (hc : c' = c + w * S) : V + (c' % 4294967296) * P + (c' / 4294967296) * (P * 4294967296) = S * (X + w * P) := by
  have e := Nat.div_add_mod c' 4294967296
  have e2 : (c' % 4294967296) * P + (c' / 4294967296) * (P * 4294967296) = c' * P := by
    conv => rhs; rw [← e]
    rw [Nat.add_mul, Nat.add_comm]
    congr 1
    ac_rfl
  rw [Nat.add_assoc, e2, hc, Nat.add_mul, ← Nat.add_assoc, h, Nat.mul_add]
  congr 1
  ac_rfl
/-- the numbers of the class hold 512 words -/
def MM : Nat := 4294967296 ^ 512
theorem MM_def : MM = 4294967296 ^ 512 := rfl
theorem MM_le {n : Nat} (h : n ≤ 512) : 4294967296 ^ n ≤ MM := Nat.pow_le_pow_right (by decide) h
theorem MM_mul {n : Nat} (h : n ≤ 512) : MM = 4294967296 ^ n * 4294967296 ^ (512 - n) := by rw [← Nat.pow_add, MM_def]; congr 1; omega
theorem vl_ltM (f : Nat → Int32) {n : Nat} (h : n ≤ 512) : vl f n < MM := Nat.lt_of_lt_of_le (vl_lt f n) (MM_le h)
theorem uN_nI {v : Nat} (h : v < 2 ^ 31) : uN (nI v).toInt64 = v := by
  have h1 : (nI v).toInt64.toInt = (v : Int) := by rw [Jvm.Kit.i64_of_i32, nI_toInt h]
  have h2 := uN_of_nonneg (x := (nI v).toInt64) (by omega)
  omega
theorem i32_rng (x : Int32) : -2147483648 ≤ x.toInt ∧ x.toInt < 2147483648 := by
  have h1 := wn_int x
  have h2 := wn_lt x
  split at h1 <;> omega
theorem i32_abs_le (x : Int32) : x.toInt.natAbs ≤ 2147483648 := by
  have := i32_rng x
  omega
theorem uN_absl (x : Int32) : uN (if 0 < x.toInt64 then x.toInt64 else -x.toInt64) = x.toInt.natAbs := by
  have hr := i32_rng x
  have he := Jvm.Kit.i64_of_i32 x
  split
  · rename_i h
    rw [Int64.lt_iff_toInt_lt, Int64.toInt_zero] at h
    have := uN_of_nonneg (x := x.toInt64) (by omega)
    omega
  · rename_i h
    rw [Int64.lt_iff_toInt_lt, Int64.toInt_zero] at h
    have h2 : (-x.toInt64).toInt = -x.toInt64.toInt := Jvm.Kit.i64_neg (by omega)
    have := uN_of_nonneg (x := -x.toInt64) (by omega)
    omega
/-- one word of a sum's row -/
theorem vl_stepA {V c P X Y a b : Nat} (c' : Nat) (h : V + c * P = X + Y) (hc : c' = c + (a + b)) : V + (c' % 4294967296) * P + (c' / 4294967296) * (P * 4294967296) = X + a * P + (Y + b * P) := by
  have e := Nat.div_add_mod c' 4294967296
  have e2 : (c' % 4294967296) * P + (c' / 4294967296) * (P * 4294967296) = c' * P := by
    conv => rhs; rw [← e]
    rw [Nat.add_mul, Nat.add_comm]
    congr 1
    ac_rfl
  rw [Nat.add_assoc, e2, hc, Nat.add_mul, Nat.add_mul]
  omega
theorem max_nI {a b : Nat} (ha : a < 2 ^ 31) (hb : b < 2 ^ 31) : (if nI a < nI b then nI b else nI a) = nI (max a b) := by
  by_cases h : a < b
  · rw [if_pos (nI_lt h hb), Nat.max_eq_right (by omega)]
  · rw [if_neg (nI_nlt (by omega) ha), Nat.max_eq_left (by omega)]
theorem min_nI {a b : Nat} (ha : a < 2 ^ 31) (hb : b < 2 ^ 31) : (if nI b < nI a then nI b else nI a) = nI (min a b) := by
  by_cases h : b < a
  · rw [if_pos (nI_lt h ha), Nat.min_eq_right (by omega)]
  · rw [if_neg (nI_nlt (by omega) hb), Nat.min_eq_left (by omega)]
theorem vl_cmp1 {A C P a c : Nat} (h1 : A < P) (h2 : C < P) (h : c < a) : ¬ A + a * P < C + c * P := by
  have h3 : (c + 1) * P ≤ a * P := Nat.mul_le_mul_right _ h
  rw [Nat.add_mul, Nat.one_mul] at h3
  omega
theorem vl_cmp2 {A C P a c : Nat} (h1 : A < P) (h : a < c) : A + a * P < C + c * P := by
  have h3 : (a + 1) * P ≤ c * P := Nat.mul_le_mul_right _ h
  rw [Nat.add_mul, Nat.one_mul] at h3
  omega
theorem vl_ge {f : Nat → Int32} {n : Nat} (h0 : 0 < n) (h : wn (f (n - 1)) ≠ 0) : 4294967296 ^ (n - 1) ≤ vl f n := by
  obtain ⟨k, rfl⟩ : ∃ k, n = k + 1 := ⟨n - 1, by omega⟩
  rw [Nat.add_sub_cancel] at h ⊢
  rw [vl_s]
  have h3 : 1 * 4294967296 ^ k ≤ wn (f k) * 4294967296 ^ k := Nat.mul_le_mul_right _ (Nat.pos_of_ne_zero h)
  omega
theorem vl_len {f g : Nat → Int32} {n r : Nat} (h : n < r) (ht : wn (g (r - 1)) ≠ 0) : vl f n < vl g r :=
  Nat.lt_of_lt_of_le (Nat.lt_of_lt_of_le (vl_lt f n) (Nat.pow_le_pow_right (by decide) (by omega))) (vl_ge (by omega) ht)
theorem wn_l2iZ (x : Int64) : (wn x.toInt32 : Int) = x.toInt % 4294967296 := by
  have h1 := uN_int x
  have h2 := uN_lt x
  rw [wn_l2i]
  split at h1 <;> omega
/-- one word of a difference's row -/
theorem vl_stepD {V X Y a b : Nat} {c : Int} {P : Nat} (t : Int) (h : (V : Int) + c * (P : Int) = (X : Int) - (Y : Int)) (ht : t = c + ((a : Int) - b)) {v : Nat} (hv : (v : Int) = t % 4294967296) :
    ((V + v * P : Nat) : Int) + t / 4294967296 * ((P * 4294967296 : Nat) : Int) = ((X + a * P : Nat) : Int) - ((Y + b * P : Nat) : Int) := by
  have e := Int.emod_add_mul_ediv t 4294967296
  have e2 : (v : Int) * P + t / 4294967296 * ((P * 4294967296 : Nat) : Int) = t * P := by
    rw [hv, Int.natCast_mul, show ((4294967296 : Nat) : Int) = 4294967296 from rfl]
    conv => rhs; rw [← e]
    rw [Int.add_mul]
    congr 1
    ac_rfl
  have e3 : t * (P : Int) = c * P + ((a : Int) * P - (b : Int) * P) := by rw [ht, Int.add_mul, Int.sub_mul]
  rw [Int.natCast_add, Int.natCast_add, Int.natCast_add, Int.natCast_mul v, Int.natCast_mul a, Int.natCast_mul b]
  omega
theorem vl_stepH {V w0 X P wq wr : Nat} (h : 2 * V + w0 = X + wq % 2 * P) : 2 * (V + (wq / 2 + wr % 2 * 2147483648) * P) + w0 = X + wq * P + wr % 2 * (P * 4294967296) := by
  have e : wq = 2 * (wq / 2) + wq % 2 := by omega
  have e1 : wq * P = 2 * (wq / 2 * P) + wq % 2 * P := by
    conv => lhs; rw [e]
    rw [Nat.add_mul, Nat.mul_assoc]
  have e2 : wr % 2 * (P * 4294967296) = 2 * (wr % 2 * 2147483648 * P) := by
    rw [Nat.mul_comm P, ← Nat.mul_assoc, ← Nat.mul_assoc]
    congr 1
    omega
  rw [Nat.add_mul]
  omega
theorem wn_halve (x y : Int32) : wn ((x.toUInt32 >>> ((1 : Int32).toUInt32 &&& Int32.toUInt32 31)).toInt32 ||| y <<< ((31 : Int32) &&& 31)) = wn x / 2 + wn y % 2 * 2147483648 := by
  have h1 : ((x.toUInt32 >>> ((1 : Int32).toUInt32 &&& Int32.toUInt32 31)).toInt32).toBitVec.toNat = wn x / 2 := pk_ushr x 1 1 (by decide)
  have h2 : (y <<< ((31 : Int32) &&& 31)).toBitVec.toNat = wn y * 2 ^ 31 % 2 ^ 32 := pk_shl y _ 31 (by decide)
  show (((x.toUInt32 >>> ((1 : Int32).toUInt32 &&& Int32.toUInt32 31)).toInt32).toBitVec ||| (y <<< ((31 : Int32) &&& 31)).toBitVec).toNat = _
  rw [BitVec.toNat_or, h1, h2, Nat.or_comm]
  have h3 : wn y * 2 ^ 31 % 2 ^ 32 = 2 ^ 31 * (wn y % 2) := by omega
  rw [h3, ← Nat.two_pow_add_eq_or_of_lt (i := 31) (by have := wn_lt x; omega) (wn y % 2)]
  omega
theorem vl_tail {f g : Nat → Int32} {q : Nat} : ∀ {n : Nat}, q ≤ n → (∀ t, q ≤ t → t < n → f t = g t) → vl f n + vl g q = vl g n + vl f q := by
  intro n
  induction n with
  | zero => intro h _; rw [Nat.le_zero.mp h]; rfl
  | succ n ih =>
    intro h hf
    rcases Nat.lt_or_ge n q with h1 | h1
    · rw [show q = n + 1 by omega]; omega
    · have := ih h1 (fun t a b => hf t a (by omega))
      rw [vl_s, vl_s, hf n h1 (by omega)]
      omega
theorem vl_zero {f : Nat → Int32} {q : Nat} : ∀ {n : Nat}, q ≤ n → (∀ t, q ≤ t → t < n → f t = 0) → vl f n = vl f q := by
  intro n
  induction n with
  | zero => intro h _; rw [Nat.le_zero.mp h]
  | succ n ih =>
    intro h hf
    rcases Nat.lt_or_ge n q with h1 | h1
    · rw [show q = n + 1 by omega]
    · rw [vl_s, hf n h1 (by omega), wn_0, Nat.zero_mul, Nat.add_zero]
      exact ih h1 (fun t a b => hf t a (by omega))
theorem Nat.add_mod_right_cancel' {a b c M : Nat} (h : a % M = b % M) : (a + c) % M = (b + c) % M := by rw [Nat.add_mod, h, ← Nat.add_mod]
/-- what lies above 512 words falls away -/
theorem mod_row {f : Nat → Int32} {V X w q r : Nat} (h : V % MM = X % MM) (hq : 512 ≤ q + r) (hq2 : q ≤ 512) : (V + w * vl f (512 - q) * 4294967296 ^ q) % MM = (X + w * vl f r * 4294967296 ^ q) % MM := by
  have key : ∀ t, (w * vl f (512 - q) * 4294967296 ^ q) % MM = (w * vl f (512 - q + t) * 4294967296 ^ q) % MM := by
    intro t
    induction t with
    | zero => rfl
    | succ t ih =>
      rw [ih, ← Nat.add_assoc, vl_s, Nat.mul_add, Nat.add_mul]
      have e : w * (wn (f (512 - q + t)) * 4294967296 ^ (512 - q + t)) * 4294967296 ^ q = MM * (w * wn (f (512 - q + t)) * 4294967296 ^ t) := by
        rw [MM_mul hq2, Nat.pow_add]
        ac_rfl
      rw [e, Nat.add_mul_mod_self_left]
  rw [Nat.add_mod, h, key (r - (512 - q)), ← Nat.add_mod, show 512 - q + (r - (512 - q)) = r by omega]
theorem neg_mod0 {v M : Nat} (h : v % M = 0) : (-(v : Int)) % (M : Int) = ((0 : Nat) : Int) := by
  have h1 : (M : Int) ∣ (v : Int) := Int.ofNat_dvd.mpr (Nat.dvd_of_mod_eq_zero h)
  exact Int.emod_eq_zero_of_dvd (Int.dvd_neg.mpr h1)
theorem neg_mod1 {v M : Nat} (h0 : 0 < M) (h : 0 < v % M) : (-(v : Int)) % (M : Int) = (M : Int) - ((v % M : Nat) : Int) := by
  have e := Nat.div_add_mod v M
  have hl := Nat.mod_lt v h0
  have e2 : (-(v : Int)) = ((M : Int) - ((v % M : Nat) : Int)) + (M : Int) * (-((v / M : Nat) : Int) - 1) := by
    have e3 : (v : Int) = (M : Int) * ((v / M : Nat) : Int) + ((v % M : Nat) : Int) := by rw [← Int.natCast_mul, ← Int.natCast_add, e]
    rw [Int.mul_sub, Int.mul_neg, Int.mul_one]
    omega
  rw [e2, Int.add_mul_emod_self_left]
  exact Int.emod_eq_of_lt (by omega) (by omega)
theorem uN_shlor {x y : Int64} {w : Nat} (hx : uN x < 2147483648) (hy : uN y = w) (hw : w < 4294967296) : uN (x <<< ((32 : Int32).toInt64 &&& 63) ||| y) = uN x * 4294967296 + w := by
  have h0 : (((32 : Int32).toInt64 &&& 63).toBitVec.smod 64).toNat = 32 := by decide
  have h1 : uN (x <<< ((32 : Int32).toInt64 &&& 63)) = uN x * 4294967296 := by
    show (x.toBitVec <<< (((32 : Int32).toInt64 &&& 63).toBitVec.smod 64).toNat).toNat = _
    rw [h0, BitVec.toNat_shiftLeft, Nat.shiftLeft_eq]
    exact Nat.mod_eq_of_lt (show uN x * 2 ^ 32 < 2 ^ 64 by omega)
  have h2 : uN (x <<< ((32 : Int32).toInt64 &&& 63) ||| y) = uN (x <<< ((32 : Int32).toInt64 &&& 63)) ||| uN y := UInt64.toNat_or _ _
  rw [h2, h1, hy, show uN x * 4294967296 = 2 ^ 32 * uN x by omega, ← Nat.two_pow_add_eq_or_of_lt (i := 32) hw (uN x)]
theorem div_word (f : Nat → Int32) {n q M : Nat} (h : q < n) : (vl f n / 4294967296 ^ (q + 1) % M * 4294967296 + wn (f q)) % M = vl f n / 4294967296 ^ q % M := by
  have e := Nat.div_add_mod (vl f n / 4294967296 ^ q) 4294967296
  rw [vl_word f q n h, Nat.div_div_eq_div_mul, ← Nat.pow_succ] at e
  rw [← e, Nat.add_mod, Nat.mod_mul_mod, ← Nat.add_mod, Nat.mul_comm]
/-- one word of a row of two products -/
theorem vl_stepL {V c P X Y p q a b : Nat} (c' : Nat) (h : V + c * P = p * X + q * Y) (hc : c' = c + (p * a + q * b)) : V + (c' % 4294967296) * P + (c' / 4294967296) * (P * 4294967296) = p * (X + a * P) + q * (Y + b * P) := by
  have h2 := vl_stepA (X := p * X) (Y := q * Y) (a := p * a) (b := q * b) c' h hc
  rw [h2, Nat.mul_add, Nat.mul_add, Nat.mul_assoc, Nat.mul_assoc]
theorem abs_nI {x : Int32} (h : x.toInt.natAbs < 2 ^ 31) : (if 0 ≤ x then x else 0 - x) = nI x.toInt.natAbs := by
  apply Int32.toInt_inj.mp
  rw [nI_toInt h]
  split
  · rename_i q
    rw [Int32.le_iff_toInt_le, Int32.toInt_zero] at q
    omega
  · rename_i q
    rw [Int32.le_iff_toInt_le, Int32.toInt_zero] at q
    have hr := i32_rng x
    rw [Jvm.Kit.i32_sub] <;> rw [Int32.toInt_zero] <;> omega
