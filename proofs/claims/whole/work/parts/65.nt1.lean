/-! the ring comes back to its first form, and its unit isn't long -/
/-- b, c of the pairs passed, the latest first -/
def Hist (D r b0 c0 : Nat) : List (Nat × Nat) → Nat → Nat → Nat → Prop
  | [], A, b, c => A = 1 ∧ b = b0 ∧ c = c0
  | p :: h, A, b, c => 2 ≤ p.2 ∧ A = p.2 ∧ b = nxB r p.1 p.2 ∧ c = nxC D r p.1 p.2 ∧ ∃ A', Hist D r b0 c0 h A' p.1 p.2
theorem Hist.red {D r b0 c0 : Nat} (h0 : r * r < D) (h3 : D < (r + 1) * (r + 1)) (hF : Red D r 1 b0 c0) : ∀ (h : List (Nat × Nat)) (A b c : Nat), Hist D r b0 c0 h A b c → Red D r A b c := by
  intro h
  induction h with
  | nil => intro A b c ⟨e1, e2, e3⟩; rw [e1, e2, e3]; exact hF
  | cons p h ih =>
    intro A b c ⟨e0, e1, e2, e3, A', hA⟩
    rw [e1, e2, e3]
    exact (ih A' p.1 p.2 hA).next h0 h3
theorem nxB_inj {r b b' c : Nat} (hc : 1 ≤ c) (hb : b ≤ r) (h1 : r + 1 ≤ b + 2 * c) (h2 : 2 * c ≤ b + r) (hb' : b' ≤ r) (h1' : r + 1 ≤ b' + 2 * c) (h2' : 2 * c ≤ b' + r) (e : nxB r b c = nxB r b' c) : b = b' := by
  have k := (nx_b hb hc h1 h2).1
  have k' := (nx_b hb' hc h1' h2').1
  unfold nxB at e
  generalize (b + r) / (2 * c) = q at *
  generalize (b' + r) / (2 * c) = q' at *
  rcases Nat.lt_trichotomy q q' with w | w | w
  · have := Nat.mul_le_mul_left (2 * c) (show q + 1 ≤ q' from w)
    rw [Nat.mul_add, Nat.mul_one] at this
    omega
  · subst w; omega
  · have := Nat.mul_le_mul_left (2 * c) (show q' + 1 ≤ q from w)
    rw [Nat.mul_add, Nat.mul_one] at this
    omega
theorem Red.A_eq {D r A A' b c : Nat} (h : Red D r A b c) (h' : Red D r A' b c) : A = A' := by
  obtain ⟨_, _, hc, e, _, _⟩ := h
  obtain ⟨_, _, _, e', _, _⟩ := h'
  exact Nat.eq_of_mul_eq_mul_right (show 0 < c by omega) (by omega)
theorem Hist.len {D r b0 c0 : Nat} (h0 : r * r < D) (h3 : D < (r + 1) * (r + 1)) (hF : Red D r 1 b0 c0) : ∀ (h h' : List (Nat × Nat)) (A A' b c : Nat), Hist D r b0 c0 h A b c → Hist D r b0 c0 h' A' b c → h.length = h'.length := by
  intro h
  induction h with
  | nil =>
    intro h' A A' b c hh hh'
    have eA := (hh.red h0 h3 hF).A_eq (hh'.red h0 h3 hF)
    cases h' with
    | nil => rfl
    | cons p' h' => obtain ⟨e1, _, _⟩ := hh; obtain ⟨e0, e2, _⟩ := hh'; omega
  | cons p h ih =>
    intro h' A A' b c hh hh'
    have eA := (hh.red h0 h3 hF).A_eq (hh'.red h0 h3 hF)
    cases h' with
    | nil => obtain ⟨e1, _, _⟩ := hh'; obtain ⟨e0, e2, _⟩ := hh; omega
    | cons p' h' =>
      obtain ⟨e0, e1, e2, e3, B, hB⟩ := hh
      obtain ⟨f0, f1, f2, f3, B', hB'⟩ := hh'
      have ec : p'.2 = p.2 := by omega
      have r1 := hB.red h0 h3 hF
      have r2 := hB'.red h0 h3 hF
      rw [ec] at r2 f2 f3 hB'
      have eb : p.1 = p'.1 := nxB_inj r1.2.2.1 r1.1 r1.2.2.2.2.1 r1.2.2.2.2.2 r2.1 r2.2.2.2.2.1 r2.2.2.2.2.2 (by rw [← e2, ← f2])
      rw [← eb] at hB'
      have := ih h' B B' p.1 p.2 hB hB'
      show h.length + 1 = h'.length + 1
      omega
theorem Hist.sub {D r b0 c0 : Nat} : ∀ (h : List (Nat × Nat)) (A b c : Nat) (p : Nat × Nat), Hist D r b0 c0 h A b c → p ∈ h → 2 ≤ p.2 ∧ ∃ h2 A2, Hist D r b0 c0 h2 A2 p.1 p.2 ∧ h2.length < h.length := by
  intro h
  induction h with
  | nil => intro A b c p _ hp; cases hp
  | cons q h ih =>
    intro A b c p ⟨e0, e1, e2, e3, B, hB⟩ hp
    rcases List.mem_cons.mp hp with w | w
    · subst w; exact ⟨e0, h, B, hB, Nat.lt_succ_self _⟩
    · obtain ⟨i0, h2, A2, i1, i2⟩ := ih B q.1 q.2 p hB w
      exact ⟨i0, h2, A2, i1, Nat.lt_succ_of_lt i2⟩
/-- the pair's c, and its b by twice that -/
def cdP (p : Nat × Nat) : Nat × Nat := (p.2, p.1 % (2 * p.2))
theorem mod_win {m r b b' : Nat} (hb : b ≤ r) (hb' : b' ≤ r) (h1 : r + 1 ≤ b + m) (h1' : r + 1 ≤ b' + m) (e : b % m = b' % m) : b = b' := by
  have e1 := Nat.div_add_mod b m
  have e2 := Nat.div_add_mod b' m
  rw [e] at e1
  generalize b / m = q at *
  generalize b' / m = q' at *
  rcases Nat.lt_trichotomy q q' with w | w | w
  · have := Nat.mul_le_mul_left m (show q + 1 ≤ q' from w)
    rw [Nat.mul_add, Nat.mul_one] at this
    omega
  · subst w; omega
  · have := Nat.mul_le_mul_left m (show q' + 1 ≤ q from w)
    rw [Nat.mul_add, Nat.mul_one] at this
    omega
theorem Hist.nodup {D r b0 c0 : Nat} (h0 : r * r < D) (h3 : D < (r + 1) * (r + 1)) (hF : Red D r 1 b0 c0) : ∀ (h : List (Nat × Nat)) (A b c : Nat), Hist D r b0 c0 h A b c → (h.map cdP).Nodup := by
  intro h
  induction h with
  | nil => intro A b c _; exact List.Pairwise.nil
  | cons p h ih =>
    intro A b c ⟨e0, e1, e2, e3, B, hB⟩
    rw [List.map_cons]
    refine List.nodup_cons.mpr ⟨fun hm => ?_, ih B p.1 p.2 hB⟩
    obtain ⟨q, hq, eq⟩ := List.mem_map.mp hm
    obtain ⟨i0, h2, A2, i1, i2⟩ := hB.sub h B p.1 p.2 q hq
    have r1 := hB.red h0 h3 hF
    have r2 := i1.red h0 h3 hF
    have ec : q.2 = p.2 := congrArg Prod.fst eq
    have eb : q.1 % (2 * q.2) = p.1 % (2 * p.2) := congrArg Prod.snd eq
    rw [ec] at eb r2 i1
    have eb' : q.1 = p.1 := mod_win r2.1 r1.1 r2.2.2.2.2.1 r1.2.2.2.2.1 eb
    rw [eb'] at i1
    have := Hist.len h0 h3 hF h h2 B A2 p.1 p.2 hB i1
    omega
/-- 64 times how many twos 1025 / k is at most -/
def lgW (k : Nat) : Nat := (1025 ^ 64 / k ^ 64).log2 + 1
theorem lgW_spec {k : Nat} (hk : 1 ≤ k) : 1025 ^ 64 ≤ 2 ^ lgW k * k ^ 64 := by
  have h1 : 1025 ^ 64 / k ^ 64 < 2 ^ lgW k := Nat.lt_log2_self
  have h2 := (Nat.div_lt_iff_lt_mul (Nat.pow_pos (n := 64) hk)).mp h1
  exact Nat.le_of_lt h2
def swL : List (Nat × Nat) → Nat
  | [] => 0
  | p :: l => lgW p.1 + swL l
theorem swL_app (l1 l2 : List (Nat × Nat)) : swL (l1 ++ l2) = swL l1 + swL l2 := by
  induction l1 with
  | nil => exact (Nat.zero_add _).symm
  | cons p l ih => rw [List.cons_append, swL, swL, ih, Nat.add_assoc]
theorem swL_perm {l1 l2 : List (Nat × Nat)} (h : l1.Perm l2) : swL l1 = swL l2 := by
  induction h with
  | nil => rfl
  | cons x _ ih => rw [swL, swL, ih]
  | swap x y l => rw [swL, swL, swL, swL]; omega
  | trans _ _ i1 i2 => exact i1.trans i2
theorem swL_le : ∀ (l G : List (Nat × Nat)), l.Nodup → (∀ x, x ∈ l → x ∈ G) → swL l ≤ swL G := by
  intro l
  induction l with
  | nil => intro G _ _; exact Nat.zero_le _
  | cons x l ih =>
    intro G hn hs
    obtain ⟨n1, n2⟩ := List.nodup_cons.mp hn
    have hx : x ∈ G := hs x List.mem_cons_self
    have hp := List.perm_cons_erase hx
    rw [swL_perm hp, swL, swL]
    refine Nat.add_le_add_left (ih (G.erase x) n2 (fun y hy => ?_)) _
    have hy2 : y ∈ x :: G.erase x := hp.mem_iff.mp (hs y (List.mem_cons_of_mem _ hy))
    rcases List.mem_cons.mp hy2 with w | w
    · subst w; exact absurd hy n1
    · exact w
theorem swL_len (l : List (Nat × Nat)) : l.length ≤ swL l := by
  induction l with
  | nil => exact Nat.le_refl _
  | cons p l ih => rw [swL]; show l.length + 1 ≤ _; have : 1 ≤ lgW p.1 := Nat.le_add_left _ _; omega
/-- all pairs of one c -/
def GK (D k : Nat) : List (Nat × Nat) := ((List.range (2 * k)).filter (fun x => x * x % (4 * k) == D % (4 * k))).map (fun x => (k, x))
def GL (D k0 : Nat) : Nat → List (Nat × Nat)
  | 0 => []
  | n + 1 => GL D k0 n ++ GK D (k0 + n)
theorem GL_mem {D k0 k x : Nat} (h1 : k0 ≤ k) (hx : x < 2 * k) (e : x * x % (4 * k) = D % (4 * k)) : ∀ n, k < k0 + n → (k, x) ∈ GL D k0 n := by
  intro n
  induction n with
  | zero => intro h; omega
  | succ n ih =>
    intro h
    rw [GL]
    by_cases w : k < k0 + n
    · exact List.mem_append_left _ (ih w)
    · have : k0 + n = k := by omega
      rw [this]
      refine List.mem_append_right _ (List.mem_map.mpr ⟨x, ?_, rfl⟩)
      exact List.mem_filter.mpr ⟨List.mem_range.mpr hx, by rw [e]; exact beq_self_eq_true _⟩
/-- how often f takes the value j below n -/
def cf (f : Nat → Nat) : Nat → Nat → Nat
  | 0, _ => 0
  | n + 1, j => cf f n j + if f n = j then 1 else 0
theorem cf_le (f : Nat → Nat) : ∀ n j, cf f n j ≤ n := by
  intro n
  induction n with
  | zero => intro j; exact Nat.le_refl _
  | succ n ih => intro j; rw [cf]; have := ih j; split <;> omega
theorem swL_GK (D k : Nat) : swL (GK D k) = lgW k * cf (fun x => x * x % (4 * k)) (2 * k) (D % (4 * k)) := by
  unfold GK
  generalize 2 * k = n
  induction n with
  | zero => rfl
  | succ n ih =>
    rw [List.range_succ, List.filter_append, List.map_append, swL_app, ih, cf, Nat.mul_add]
    congr 1
    by_cases w : n * n % (4 * k) = D % (4 * k)
    · rw [if_pos w, List.filter_cons_of_pos (by rw [w]; exact beq_self_eq_true _)]; simp only [List.filter_nil, List.map_cons, List.map_nil, swL, Nat.mul_one, Nat.add_zero]
    · rw [if_neg w, List.filter_cons_of_neg (by simpa using w)]; simp only [List.filter_nil, List.map_nil, swL, Nat.mul_zero]
def SG (D k0 : Nat) : Nat → Nat
  | 0 => 0
  | n + 1 => SG D k0 n + lgW (k0 + n) * cf (fun x => x * x % (4 * (k0 + n))) (2 * (k0 + n)) (D % (4 * (k0 + n)))
theorem swL_GL (D k0 : Nat) : ∀ n, swL (GL D k0 n) = SG D k0 n := by
  intro n
  induction n with
  | zero => rfl
  | succ n ih => rw [GL, swL_app, ih, swL_GK, SG]
theorem SG_add (D k0 a : Nat) : ∀ b, SG D k0 (a + b) = SG D k0 a + SG D (k0 + a) b := by
  intro b
  induction b with
  | zero => rfl
  | succ b ih =>
    rw [show a + (b + 1) = (a + b) + 1 from rfl, SG, ih, SG, Nat.add_assoc, show k0 + (a + b) = k0 + a + b from (Nat.add_assoc _ _ _).symm]
/-- the weight of what was passed is bounded by the weight of all -/
theorem Hist.weight {D r b0 c0 : Nat} (h0 : r * r < D) (h3 : D < (r + 1) * (r + 1)) (hF : Red D r 1 b0 c0) (hr : r ≤ 1024) {h : List (Nat × Nat)} {A b c : Nat} (hh : Hist D r b0 c0 h A b c) : swL (h.map cdP) ≤ SG D 2 1023 := by
  rw [← swL_GL]
  refine swL_le _ _ (Hist.nodup h0 h3 hF h A b c hh) (fun x hx => ?_)
  obtain ⟨q, hq, eq⟩ := List.mem_map.mp hx
  obtain ⟨i0, h2, A2, i1, i2⟩ := hh.sub h A b c q hq
  obtain ⟨r1, r2, r3, r4, r5, r6⟩ := i1.red h0 h3 hF
  subst eq
  refine GL_mem i0 (Nat.mod_lt _ (by omega)) ?_ 1023 (by omega)
  have e1 : q.1 % (2 * q.2) * (q.1 % (2 * q.2)) % (4 * q.2) = q.1 * q.1 % (4 * q.2) := by
    have e2 := Nat.div_add_mod q.1 (2 * q.2)
    generalize q.1 / (2 * q.2) = t at e2
    generalize q.1 % (2 * q.2) = x at e2
    have e3 : q.1 * q.1 = x * x + 4 * q.2 * (q.2 * (t * t) + t * x) := by
      rw [← e2]
      generalize q.2 = k
      rw [Nat.add_mul, Nat.mul_add, Nat.mul_add, Nat.mul_add]
      have a1 : 2 * k * t * (2 * k * t) = 4 * k * (k * (t * t)) := by
        rw [show 4 * k * (k * (t * t)) = (2 * 2) * k * (k * (t * t)) from rfl]
        ac_rfl
      have a2 : 2 * k * t * x + x * (2 * k * t) = 4 * k * (t * x) := by
        rw [Nat.mul_comm x (2 * k * t), ← Nat.two_mul, show 4 * k * (t * x) = (2 * 2) * k * (t * x) from rfl]
        ac_rfl
      omega
    rw [e3, Nat.add_mul_mod_self_left]
  rw [e1, r4, show 4 * (A2 * q.2) = 4 * q.2 * A2 from by rw [Nat.mul_comm A2, Nat.mul_assoc], Nat.add_mul_mod_self_left]
