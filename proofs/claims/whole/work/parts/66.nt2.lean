/-! how many pairs of one c there are at most: numbers with 4096 for ten -/
def evD (d : Nat → Nat) : Nat → Nat
  | 0 => 0
  | J + 1 => evD d J + d J * 4096 ^ J
theorem evD_lt (d : Nat → Nat) (hd : ∀ j, d j < 4096) : ∀ J, evD d J < 4096 ^ J := by
  intro J
  induction J with
  | zero => exact Nat.one_pos
  | succ J ih =>
    rw [evD, Nat.pow_succ]
    have := Nat.mul_le_mul_right (4096 ^ J) (show d J ≤ 4095 by have := hd J; omega)
    omega
theorem evD_dig (d : Nat → Nat) (hd : ∀ j, d j < 4096) : ∀ J i, i < J → evD d J / 4096 ^ i % 4096 = d i := by
  intro J
  induction J with
  | zero => intro i h; omega
  | succ J ih =>
    intro i h
    rw [evD]
    by_cases w : i < J
    · obtain ⟨t, rfl⟩ : ∃ t, J = i + (t + 1) := ⟨J - i - 1, by omega⟩
      rw [← ih i w]
      have e : d (i + (t + 1)) * 4096 ^ (i + (t + 1)) = 4096 ^ i * (4096 * (d (i + (t + 1)) * 4096 ^ t)) := by
        rw [Nat.pow_add, Nat.pow_succ]
        ac_rfl
      rw [e, Nat.add_mul_div_left _ _ (Nat.pow_pos (by decide)), Nat.add_mul_mod_self_left]
    · have : i = J := by omega
      subst this
      rw [Nat.mul_comm (d i), Nat.add_mul_div_left _ _ (Nat.pow_pos (by decide)), Nat.div_eq_of_lt (evD_lt d hd i), Nat.zero_add, Nat.mod_eq_of_lt (hd i)]
theorem evD_bump (d : Nat → Nat) (a : Nat) : ∀ J, evD (fun j => d j + if a = j then 1 else 0) J = evD d J + if a < J then 4096 ^ a else 0 := by
  intro J
  induction J with
  | zero => rfl
  | succ J ih =>
    rw [evD, evD, ih]
    by_cases w : a = J
    · subst w
      rw [if_neg (Nat.lt_irrefl a), if_pos (Nat.lt_succ_self a), if_pos rfl, Nat.add_mul, Nat.one_mul]
      omega
    · rw [if_neg w]
      by_cases v : a < J
      · rw [if_pos v, if_pos (by omega)]; rw [Nat.add_zero]; omega
      · rw [if_neg v, if_neg (by omega)]; rfl
/-- the sum of t over n numbers from lo on -/
def NS (t : Nat → Nat) (lo : Nat) : Nat → Nat
  | 0 => 0
  | n + 1 => NS t lo n + t (lo + n)
theorem NS_add (t : Nat → Nat) (lo a : Nat) : ∀ b, NS t lo (a + b) = NS t lo a + NS t (lo + a) b := by
  intro b
  induction b with
  | zero => rfl
  | succ b ih => rw [show a + (b + 1) = (a + b) + 1 from rfl, NS, ih, NS, Nat.add_assoc, Nat.add_assoc lo a b]
theorem NS_ev (f : Nat → Nat) (J : Nat) (hf : ∀ x, f x < J) : ∀ n, NS (fun x => 4096 ^ f x) 0 n = evD (cf f n) J := by
  intro n
  induction n with
  | zero =>
    rw [NS]
    clear hf
    induction J with
    | zero => rfl
    | succ J ih => rw [evD, ← ih]; show 0 = 0 + 0 * _; rw [Nat.zero_mul]
  | succ n ih =>
    rw [NS, ih, Nat.zero_add]
    have := evD_bump (cf f n) (f n) J
    rw [if_pos (hf n)] at this
    exact this.symm
/-- the same sum, by halves -/
def bsN (t : Nat → Nat) (m : Nat) : Nat → Nat → Nat :=
  Nat.rec (fun lo n => Nat.rec 0 (fun _ _ => t lo) n) (fun _ ih lo n => Nat.add (ih lo (Nat.div n 2)) (ih (Nat.add lo (Nat.div n 2)) (Nat.sub n (Nat.div n 2)))) m
theorem bsN_eq (t : Nat → Nat) : ∀ m lo n, n ≤ 2 ^ m → bsN t m lo n = NS t lo n := by
  intro m
  induction m with
  | zero =>
    intro lo n h
    rcases (show n = 0 ∨ n = 1 by omega) with w | w
    · subst w; rfl
    · subst w; show t lo = 0 + t (lo + 0); rw [Nat.zero_add]; rfl
  | succ m ih =>
    intro lo n h
    show bsN t m lo (n / 2) + bsN t m (lo + n / 2) (n - n / 2) = _
    rw [Nat.pow_succ] at h
    rw [ih _ _ (by omega), ih _ _ (by omega), ← NS_add, show n / 2 + (n - n / 2) = n by omega]
/-- every digit is at most what M says -/
def dcN (M : Nat → Nat) (m : Nat) : Nat → Nat → Bool :=
  Nat.rec (fun N lo => Nat.ble N (M lo)) (fun m ih N lo => Nat.rec true (fun x _ => (ih (Nat.mod (Nat.succ x) (Nat.pow 4096 (Nat.pow 2 m))) lo).and (ih (Nat.div (Nat.succ x) (Nat.pow 4096 (Nat.pow 2 m))) (Nat.add lo (Nat.pow 2 m)))) N) m
theorem dcN_ok (M : Nat → Nat) : ∀ m N lo, dcN M m N lo = true → ∀ j, j < 2 ^ m → N / 4096 ^ j % 4096 ≤ M (lo + j) := by
  intro m
  induction m with
  | zero =>
    intro N lo h j hj
    have : j = 0 := by omega
    subst this
    rw [Nat.pow_zero, Nat.div_one]
    exact Nat.le_trans (Nat.mod_le _ _) (Nat.le_of_ble_eq_true h)
  | succ m ih =>
    intro N lo h j hj
    cases N with
    | zero => rw [Nat.zero_div, Nat.zero_mod]; exact Nat.zero_le _
    | succ x =>
      have h2 : (dcN M m (Nat.succ x % 4096 ^ 2 ^ m) lo).and (dcN M m (Nat.succ x / 4096 ^ 2 ^ m) (lo + 2 ^ m)) = true := h
      have h3 : dcN M m (Nat.succ x % 4096 ^ 2 ^ m) lo = true ∧ dcN M m (Nat.succ x / 4096 ^ 2 ^ m) (lo + 2 ^ m) = true := by
        rcases hc : dcN M m (Nat.succ x % 4096 ^ 2 ^ m) lo with _ | _ <;> rw [hc] at h2
        · exact Bool.noConfusion h2
        · exact ⟨rfl, h2⟩
      obtain ⟨a1, a2⟩ := h3
      show Nat.succ x / 4096 ^ j % 4096 ≤ _
      replace a1 := ih _ _ a1
      replace a2 := ih _ _ a2
      generalize Nat.succ x = N at a1 a2 ⊢
      by_cases w : j < 2 ^ m
      · have := a1 j w
        obtain ⟨s, hs⟩ : ∃ s, 2 ^ m = j + (s + 1) := ⟨2 ^ m - j - 1, by omega⟩
        rw [hs] at this
        refine Nat.le_trans (Nat.le_of_eq ?_) this
        rw [Nat.pow_add, Nat.mod_mul_right_div_self, Nat.pow_succ, Nat.mul_comm, Nat.mod_mul_right_mod]
      · have := a2 (j - 2 ^ m) (by rw [Nat.pow_succ] at hj; omega)
        rw [Nat.div_div_eq_div_mul, ← Nat.pow_add, show 2 ^ m + (j - 2 ^ m) = j by omega, show lo + 2 ^ m + (j - 2 ^ m) = lo + j by omega] at this
        exact this
/-- by what c's digits are told apart -/
def gG (k : Nat) : Nat := Nat.rec 12 (fun _ _ => 4) (k % 3)
def mT (T g j : Nat) : Nat := Nat.mod (Nat.div T (Nat.pow 64 (Nat.mod j g))) 64
def ckK (k T : Nat) : Bool := dcN (mT T (gG k)) 12 (bsN (fun x => Nat.pow 4096 (Nat.mod (Nat.mul x x) (Nat.mul 4 k))) 11 0 (Nat.mul 2 k)) 0
theorem ckK_ok {k T : Nat} (hk : 2 ≤ k) (hk2 : k ≤ 1024) (h : ckK k T = true) (D : Nat) : cf (fun x => x * x % (4 * k)) (2 * k) (D % (4 * k)) ≤ mT T (gG k) D := by
  have hm : D % (4 * k) < 4 * k := Nat.mod_lt _ (by omega)
  have h1 := dcN_ok _ 12 _ 0 h (D % (4 * k)) (by omega)
  rw [bsN_eq _ _ _ _ (by show 2 * k ≤ 2048; omega)] at h1
  have h2 : NS (fun x => Nat.pow 4096 (Nat.mod (Nat.mul x x) (Nat.mul 4 k))) 0 (Nat.mul 2 k) = evD (cf (fun x => x * x % (4 * k)) (2 * k)) (4 * k) := NS_ev (fun x => x * x % (4 * k)) (4 * k) (fun x => Nat.mod_lt _ (by omega)) (2 * k)
  rw [h2, evD_dig _ (fun j => Nat.lt_of_le_of_lt (cf_le _ _ _) (by omega)) _ _ hm, Nat.zero_add] at h1
  refine Nat.le_trans h1 (Nat.le_of_eq ?_)
  show T / 64 ^ (D % (4 * k) % gG k) % 64 = T / 64 ^ (D % gG k) % 64
  have hd : gG k ∣ 4 * k := by
    unfold gG
    rcases (show k % 3 = 0 ∨ k % 3 = 1 ∨ k % 3 = 2 by omega) with w | w | w <;> rw [w]
    · show 12 ∣ 4 * k; omega
    · show 4 ∣ 4 * k; omega
    · show 4 ∣ 4 * k; omega
  rw [Nat.mod_mod_of_dvd _ hd]
noncomputable def ckL (l : List (Nat × Nat)) : Nat → Bool := List.rec (fun _ => true) (fun p _ ih k => (Nat.beq k p.1).and ((ckK p.1 p.2).and (ih (Nat.succ k)))) l
noncomputable def smL (p : Nat) (l : List (Nat × Nat)) : Nat := List.rec 0 (fun T _ ih => Nat.add (Nat.mul (lgW T.1) (mT T.2 (gG T.1) p)) ih) l
theorem mT_12 (T k D : Nat) : mT T (gG k) (D % 12) = mT T (gG k) D := by
  show T / 64 ^ (D % 12 % gG k) % 64 = T / 64 ^ (D % gG k) % 64
  have hd : gG k ∣ 12 := by
    unfold gG
    rcases (show k % 3 = 0 ∨ k % 3 = 1 ∨ k % 3 = 2 by omega) with w | w | w <;> rw [w]
    · exact Nat.dvd_refl 12
    · show 4 ∣ 12; omega
    · show 4 ∣ 12; omega
  rw [Nat.mod_mod_of_dvd _ hd]
theorem SG_cons (D k0 n : Nat) : SG D k0 (n + 1) = lgW k0 * cf (fun x => x * x % (4 * k0)) (2 * k0) (D % (4 * k0)) + SG D (k0 + 1) n := by
  rw [Nat.add_comm n 1, SG_add, SG, SG, Nat.zero_add]; rfl
theorem and_tt {a b : Bool} (h : a.and b = true) : a = true ∧ b = true := by
  cases a
  · exact Bool.noConfusion h
  · exact ⟨rfl, h⟩
theorem ckL_ok (D : Nat) : ∀ (l : List (Nat × Nat)) (k : Nat), 2 ≤ k → k + l.length ≤ 1025 → ckL l k = true → SG D k l.length ≤ smL (D % 12) l := by
  intro l
  induction l with
  | nil => intro k _ _ _; exact Nat.le_refl _
  | cons p l ih =>
    intro k hk hl h
    have h2 : (Nat.beq k p.1).and ((ckK p.1 p.2).and (ckL l (k + 1))) = true := h
    obtain ⟨h3, h4⟩ := and_tt h2
    obtain ⟨h5, h6⟩ := and_tt h4
    have ek : k = p.1 := Nat.eq_of_beq_eq_true h3
    rw [← ek] at h5
    rw [List.length_cons] at hl ⊢
    rw [SG_cons]
    show _ ≤ lgW p.1 * mT p.2 (gG p.1) (D % 12) + smL (D % 12) l
    rw [← ek, mT_12]
    exact Nat.add_le_add (Nat.mul_le_mul_left _ (ckK_ok hk (by omega) h5 D)) (ih (k + 1) (by omega) (by omega) h6)
