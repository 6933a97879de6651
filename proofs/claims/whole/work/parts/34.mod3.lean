/-! UnitFinderModel: multiply -/
def sm (h : Nat → Nat) : Nat → Nat
  | 0 => 0
  | n + 1 => sm h n + h n
theorem sm_s (h : Nat → Nat) (n : Nat) : sm h (n + 1) = sm h n + h n := rfl
theorem sm_congr {h h2 : Nat → Nat} : ∀ {n : Nat}, (∀ m, m < n → h m = h2 m) → sm h n = sm h2 n := by
  intro n
  induction n with
  | zero => intro _; rfl
  | succ n ih => intro q; rw [sm_s, sm_s, ih (fun m hm => q m (by omega)), q n (by omega)]
theorem sm_add (h h2 : Nat → Nat) : ∀ n, sm (fun m => h m + h2 m) n = sm h n + sm h2 n := by
  intro n
  induction n with
  | zero => rfl
  | succ n ih => rw [sm_s, sm_s, sm_s, ih]; omega
theorem sm_mul (h : Nat → Nat) (c : Nat) : ∀ n, sm (fun m => h m * c) n = sm h n * c := by
  intro n
  induction n with
  | zero => show 0 = 0 * c; rw [Nat.zero_mul]
  | succ n ih => rw [sm_s, sm_s, ih, Nat.add_mul]
theorem sm_le {h : Nat → Nat} {c : Nat} : ∀ {n : Nat}, (∀ m, m < n → h m ≤ c) → sm h n ≤ n * c := by
  intro n
  induction n with
  | zero => intro _; show 0 ≤ 0 * c; omega
  | succ n ih => intro q; have a := ih (fun m hm => q m (by omega)); have b := q n (by omega); rw [sm_s, Nat.add_mul]; omega
theorem sm_zero {h : Nat → Nat} : ∀ {n : Nat}, (∀ m, m < n → h m = 0) → sm h n = 0 := by
  intro n
  induction n with
  | zero => intro _; rfl
  | succ n ih => intro q; rw [sm_s, ih (fun m hm => q m (by omega)), q n (by omega)]
theorem sm_ext {h : Nat → Nat} {a : Nat} : ∀ {n : Nat}, a ≤ n → (∀ m, a ≤ m → m < n → h m = 0) → sm h n = sm h a := by
  intro n
  induction n with
  | zero => intro q _; rw [Nat.le_zero.mp q]
  | succ n ih =>
    intro q w
    rcases Nat.lt_or_ge n a with h1 | h1
    · rw [show a = n + 1 by omega]
    · rw [sm_s, w n h1 (by omega), Nat.add_zero]; exact ih h1 (fun m a b => w m a (by omega))
/-- the products that fall on place k -/
def cv (A C : Nat → Nat) (k : Nat) : Nat := sm (fun m => A m * C (k - m)) (k + 1)
def dg (A : Nat → Nat) (n : Nat) : Nat := sm (fun m => A m * 65536 ^ m) n
theorem cv_rows (A C : Nat → Nat) : ∀ n, sm (fun c => cv A C c * 65536 ^ c) n = sm (fun m => A m * 65536 ^ m * dg C (n - m)) n := by
  intro n
  induction n with
  | zero => rfl
  | succ n ih =>
    rw [sm_s, ih]
    have e1 : sm (fun m => A m * 65536 ^ m * dg C (n + 1 - m)) (n + 1) = sm (fun m => A m * 65536 ^ m * dg C (n - m) + A m * C (n - m) * 65536 ^ n) (n + 1) := sm_congr fun m hm => by
      rw [show n + 1 - m = (n - m) + 1 by omega, dg, sm_s, ← dg, Nat.mul_add]
      congr 1
      rw [show (65536 : Nat) ^ n = 65536 ^ m * 65536 ^ (n - m) by rw [← Nat.pow_add]; congr 1; omega]
      ac_rfl
    rw [e1, sm_add, sm_mul, sm_s (fun m => A m * 65536 ^ m * dg C (n - m)), Nat.sub_self]
    show _ = sm _ n + A n * 65536 ^ n * 0 + cv A C n * 65536 ^ n
    omega
theorem dg_split (C : Nat → Nat) (a : Nat) : ∀ b, ∃ E, dg C (a + b) = dg C a + 65536 ^ a * E := by
  intro b
  induction b with
  | zero => exact ⟨0, by rw [Nat.add_zero, Nat.mul_zero, Nat.add_zero]⟩
  | succ b ih =>
    obtain ⟨E, e⟩ := ih
    refine ⟨E + C (a + b) * 65536 ^ b, ?_⟩
    rw [← Nat.add_assoc, dg, sm_s, ← dg, e, Nat.mul_add, Nat.pow_add]
    have : C (a + b) * (65536 ^ a * 65536 ^ b) = 65536 ^ a * (C (a + b) * 65536 ^ b) := by ac_rfl
    omega
theorem rows_mod (A C : Nat → Nat) (n : Nat) : ∀ k, k ≤ n → ∃ X, dg A k * dg C n = sm (fun m => A m * 65536 ^ m * dg C (n - m)) k + 65536 ^ n * X := by
  intro k
  induction k with
  | zero => intro _; exact ⟨0, by show 0 * _ = 0 + _ * 0; omega⟩
  | succ k ih =>
    intro hk
    obtain ⟨X, e⟩ := ih (by omega)
    obtain ⟨E, e2⟩ := dg_split C (n - k) k
    rw [show n - k + k = n by omega] at e2
    refine ⟨X + A k * E, ?_⟩
    have e3 : A k * 65536 ^ k * dg C n = A k * 65536 ^ k * dg C (n - k) + 65536 ^ n * (A k * E) := by
      rw [e2, Nat.mul_add]
      congr 1
      rw [show (65536 : Nat) ^ n = 65536 ^ (n - k) * 65536 ^ k by rw [← Nat.pow_add]; congr 1; omega]
      ac_rfl
    rw [dg, sm_s, ← dg, sm_s, Nat.add_mul, e, e3, Nat.mul_add]
    omega
theorem dv_dg (f : Nat → Int32) (i : Nat) : ∀ n, dv f i n = dg (fun k => wn (f (1100 * i + k))) n := by
  intro n
  induction n with
  | zero => rfl
  | succ n ih => rw [dv_s, ih]; rfl
theorem cv_prod (f : Nat → Int32) (i j : Nat) : sm (fun c => cv (fun k => wn (f (1100 * i + k))) (fun k => wn (f (1100 * j + k))) c * 65536 ^ c) 1100 % WW = rv f i * rv f j % WW := by
  obtain ⟨X, e⟩ := rows_mod (fun k => wn (f (1100 * i + k))) (fun k => wn (f (1100 * j + k))) 1100 1100 (Nat.le_refl _)
  rw [cv_rows, rv, rv, dv_dg, dv_dg, e, ← WW_def, Nat.add_mul_mod_self_left]
theorem ms_step {V P w : Nat} {c S t s' : Nat} (h : V + c * P = S) (ht : t = c + s') (hw : w = t % 65536) : V + w * P + t / 65536 * (P * 65536) = S + s' * P := by
  have e := Nat.div_add_mod t 65536
  have e2 : w * P + t / 65536 * (P * 65536) = t * P := by
    rw [hw]
    conv => rhs; rw [← e]
    rw [Nat.add_mul, Nat.add_comm]
    congr 1
    ac_rfl
  have e3 : t * P = c * P + s' * P := by rw [ht, Nat.add_mul]
  omega
set_option maxHeartbeats 4000000 in
set_option maxRecDepth 100000 in
theorem cm_multiply (l : Launch) (z : YM) (sz : Nat) (g : SM) {to i j : Nat} (ht : to < 11) (hi : i < 11) (hj : j < 11) (hti : i ≠ to) (htj : j ≠ to) (hok : dgOk g.2.2.2.2.2) : Met l y_M_multiply (zw y_M_multiply b_M_multiply 12 none) { frames := 2, cells := 0, slots := 0, locals := 44 } (va_Pc [.ref (oM z), .int (nI to), .int (nI i), .int (nI j)] (mI z g sz)) (va_Qv (fun g2 => ∃ f, g2 = mF g f ∧ dgOk f ∧ rsm g.2.2.2.2.2 f to ∧ rv f to = rv g.2.2.2.2.2 i * rv g.2.2.2.2.2 j % WW) (mO z sz) (yA z sz)) 0 0 (yA z sz) := by
  refine m_ofW (by decide) (Nat.le_of_ble_eq_true rfl) (fun p e s m below meth c hx hb hr hml hown hts hlocks hname hsz ls hU hl => ?_)
  have hl : lv_has ls 12 [(0, .ref (oM z)), (1, .int (nI to)), (2, .int (nI i)), (3, .int (nI j))] := hl
  obtain ⟨F, eF⟩ : ∃ y, y = g.2.2.2.2.2 := ⟨_, rfl⟩
  have hokF : dgOk F := by rw [eF]; exact hok
  obtain ⟨A, eA⟩ : ∃ y : Nat → Nat, y = fun k => wn (F (1100 * i + k)) := ⟨_, rfl⟩
  obtain ⟨C, eC⟩ : ∃ y : Nat → Nat, y = fun k => wn (F (1100 * j + k)) := ⟨_, rfl⟩
  have hA : ∀ k, k < 1100 → A k ≤ 65535 := fun k hk => by rw [eA]; have := hokF (1100 * i + k) (by omega); show wn (F (1100 * i + k)) ≤ 65535; omega
  have hC : ∀ k, k < 1100 → C k ≤ 65535 := fun k hk => by rw [eC]; have := hokF (1100 * j + k) (by omega); show wn (F (1100 * j + k)) ≤ 65535; omega
  have hAC : ∀ k m, k < 1100 → m ≤ k → A m * C (k - m) ≤ 4294836225 := fun k m hk hm => Nat.mul_le_mul (hA m (by omega)) (hC (k - m) (by omega))
  have E : ∀ (d k : Nat) (f : Nat → Int32) (cr : Nat) (c4 sm9 : Int64) (m11 N1 N2 : Int32) (H : Heap) (locs : List Loc) (ls : Array Slot), (∀ (k : Nat) (f : Nat → Int32) (cr : Nat) (c4 : Int64) (H : Heap) (locs : List Loc) (ls : Array Slot), k + d = 1100 → (∀ q, (q < 1100 * to ∨ 1100 * to + k ≤ q) → f q = F q) → (∀ q, q < k → wn (f (1100 * to + q)) < 65536) → c4.toInt = (cr : Int) → cr ≤ 8796093022208 → dv f to k + cr * 65536 ^ k = sm (fun c => cv A C c * 65536 ^ c) k → Ms z (mF g f) s.heap H locs s → lv_has ls 12 [(0, .ref (oM z)), (1, .int (nI to)), (2, .int (nI i)), (3, .int (nI j)), (4, .long c4), (6, .int N1), (7, .int N2), (8, .int (nI k))] → W p l e ({ frames := 2, cells := 0, slots := 0, locals := 44 } : Room) s m ([.ref (oM z), .int (nI to), .int (nI i), .int (nI j)] : List Value).toArray below meth c H locs 0 0 (MQ below (va_Qv (fun g2 => ∃ f, g2 = mF g f ∧ dgOk f ∧ rsm g.2.2.2.2.2 f to ∧ rv f to = rv g.2.2.2.2.2 i * rv g.2.2.2.2.2 j % WW) (mO z sz) (yA z sz)) ([.ref (oM z), .int (nI to), .int (nI i), .int (nI j)] : List Value).toArray s 0 0 (yA z sz)) (F0 m 20 ls [])) → k + (d + 1) = 1100 → (∀ q, (q < 1100 * to ∨ 1100 * to + k ≤ q) → f q = F q) → (∀ q, q < k → wn (f (1100 * to + q)) < 65536) → cr ≤ 8796093022208 → dv f to k + cr * 65536 ^ k = sm (fun c => cv A C c * 65536 ^ c) k → sm9.toInt = (cr : Int) + (cv A C k : Int) → Ms z (mF g f) s.heap H locs s → lv_has ls 12 [(0, .ref (oM z)), (1, .int (nI to)), (2, .int (nI i)), (3, .int (nI j)), (4, .long c4), (6, .int N1), (7, .int N2), (8, .int (nI k)), (9, .long sm9), (11, .int m11)] → W p l e ({ frames := 2, cells := 0, slots := 0, locals := 44 } : Room) s m ([.ref (oM z), .int (nI to), .int (nI i), .int (nI j)] : List Value).toArray below meth c H locs 0 0 (MQ below (va_Qv (fun g2 => ∃ f, g2 = mF g f ∧ dgOk f ∧ rsm g.2.2.2.2.2 f to ∧ rv f to = rv g.2.2.2.2.2 i * rv g.2.2.2.2.2 j % WW) (mO z sz) (yA z sz)) ([.ref (oM z), .int (nI to), .int (nI i), .int (nI j)] : List Value).toArray s 0 0 (yA z sz)) (F0 m 97 ls []) := by
    intro d k f cr c4 sm9 m11 N1 N2 H locs ls ih hk h1 h2 hc hI hs hU hl
    have hcv : cv A C k ≤ (k + 1) * 4294836225 := sm_le (fun m hm => hAC k m (by omega) (by omega))
    refine lv_aload_n hx hb d_M_multiply_97 rfl (lv_at hl 0 rfl) ?_
    refine lv_iload_n hx hb d_M_multiply_98 rfl (lv_at hl 1 rfl) ?_
    refine lv_iload hx hb d_M_multiply_99 (lv_at hl 7 rfl) ?_
    refine lv_lload hx hb d_M_multiply_101 (lv_at hl 8 rfl) ?_
    refine lv_ldc2 (v := 65535) hx hb hown (hts _ k_M_27) d_M_multiply_103 ?_
    refine lv_land hx hb d_M_multiply_106 ?_
    refine lv_topl (fun x106 ex106 => ?_)
    refine lv_l2i hx hb d_M_multiply_107 rfl ?_
    refine lv_topi (fun x107 ex107 => ?_)
    refine m_callv (m_run (As := [.int (nI to), .int (nI k), .int x107]) (rest := []) hx hb hml hown hts hU (cm_put l z _ (mF g f) ht (k := k) (by omega) x107) (w_M_put_cw hts k_M_29 rfl rfl ⟨Nat.le_of_ble_eq_true rfl, Nat.le_of_ble_eq_true rfl⟩) (m_recv hU) rfl hl.1 rfl (lv_room (Nat.le_of_ble_eq_true rfl)) d_M_multiply_108 ⟨Nat.zero_le _, Nat.zero_le _⟩) hU (fun g108 H locs hp hU => ?_)
    subst hp
    refine lv_lload hx hb d_M_multiply_111 (lv_at hl 8 rfl) ?_
    refine lv_bipush (v := 16) hx hb d_M_multiply_113 (by decide) ?_
    refine lv_lshr hx hb d_M_multiply_115 rfl ?_
    refine lv_topl (fun x115 ex115 => ?_)
    refine lv_lstore (lv' := [(4, .long x115), (0, .ref (oM z)), (1, .int (nI to)), (2, .int (nI i)), (3, .int (nI j)), (6, .int N1), (7, .int N2), (8, .int (nI k)), (9, .long sm9), (11, .int m11)]) hx hb d_M_multiply_116 hl (by decide) rfl (fun ls hl => ?_)
    obtain ⟨x118, ex118⟩ : ∃ y : Int32, y = (nI k) + Int32.ofInt 1 := ⟨_, rfl⟩
    refine lv_iinc (v := x118) (lv' := [(8, .int x118), (4, .long x115), (0, .ref (oM z)), (1, .int (nI to)), (2, .int (nI i)), (3, .int (nI j)), (6, .int N1), (7, .int N2), (9, .long sm9), (11, .int m11)]) hx hb d_M_multiply_118 hl (k := 7) rfl (by rw [ex118]) (by decide) rfl (fun ls hl => ?_)
    refine lv_goto (tgt := 20) hx hb d_M_multiply_121 (by decide) ?_
    have t107 : (wn x107 : Int) = sm9.toInt % 65536 := by rw [ex107, ex106]; exact wn_and16 sm9
    have t115 : x115.toInt = sm9.toInt / 65536 := by rw [ex115]; exact Jvm.Kit.i64_shr sm9 _ (k := 16) (by decide)
    rw [ex118, show Int32.ofInt 1 = 1 from rfl, nI_1] at hl
    exact ih (k + 1) (upd f (1100 * to + k) x107) ((cr + cv A C k) / 65536) x115 _ _ ls (by omega) (fun q hq => by rw [pk_un (by omega)]; exact h1 q (by omega)) (fun q hq => by
      by_cases h : q = k
      · rw [h, pk_us]; omega
      · rw [pk_un (by omega)]; exact h2 q (by omega)) (by rw [t115, hs]; omega) (by omega) (by
      rw [dv_s, pk_us, dv_congr (f := upd f (1100 * to + k) x107) (g := f) (j := to) (fun q hq => pk_un (by omega)), Nat.pow_succ, sm_s]
      exact ms_step hI rfl (by rw [hs] at t107; omega)) hU (lv_sub hl [2, 3, 4, 5, 1, 6, 7, 0] rfl)
  have K : ∀ (many other : Nat) (d k : Nat) (f : Nat → Int32) (cr : Nat) (c4 : Int64) (H : Heap) (locs : List Loc) (ls : Array Slot), many ≤ 1100 → other ≤ 1100 → (∀ m, many ≤ m → m < 1100 → A m = 0) → (∀ m, other ≤ m → m < 1100 → C m = 0) → k + d = 1100 → (∀ q, (q < 1100 * to ∨ 1100 * to + k ≤ q) → f q = F q) → (∀ q, q < k → wn (f (1100 * to + q)) < 65536) → c4.toInt = (cr : Int) → cr ≤ 8796093022208 → dv f to k + cr * 65536 ^ k = sm (fun c => cv A C c * 65536 ^ c) k → Ms z (mF g f) s.heap H locs s → lv_has ls 12 [(0, .ref (oM z)), (1, .int (nI to)), (2, .int (nI i)), (3, .int (nI j)), (4, .long c4), (6, .int (nI many)), (7, .int (nI other)), (8, .int (nI k))] → W p l e ({ frames := 2, cells := 0, slots := 0, locals := 44 } : Room) s m ([.ref (oM z), .int (nI to), .int (nI i), .int (nI j)] : List Value).toArray below meth c H locs 0 0 (MQ below (va_Qv (fun g2 => ∃ f, g2 = mF g f ∧ dgOk f ∧ rsm g.2.2.2.2.2 f to ∧ rv f to = rv g.2.2.2.2.2 i * rv g.2.2.2.2.2 j % WW) (mO z sz) (yA z sz)) ([.ref (oM z), .int (nI to), .int (nI i), .int (nI j)] : List Value).toArray s 0 0 (yA z sz)) (F0 m 20 ls []) := by
    intro many other d
    induction d with
    | zero =>
      intro k f cr c4 H locs ls hm ho hmz hoz hk h1 h2 hc4 hc hI hU hl
      have hk : k = 1100 := by omega
      subst hk
      refine lv_iload hx hb d_M_multiply_20 (lv_at hl 7 rfl) ?_
      refine lv_sipush (v := 1100) hx hb d_M_multiply_22 (by decide) ?_
      refine lv_icmp_ge (tgt := 124) hx hb d_M_multiply_25 (by decide) (fun c25 => ?_) (fun c25 => ?_)
      · have hokf : dgOk f := fun q hq => by
          by_cases h : q < 1100 * to ∨ 1100 * to + 1100 ≤ q
          · rw [h1 q h]; exact hokF q hq
          · obtain ⟨w, rfl⟩ : ∃ w, q = 1100 * to + w := ⟨q - 1100 * to, by omega⟩
            exact h2 w (by omega)
        have hI : rv f to + cr * WW = sm (fun c => cv A C c * 65536 ^ c) 1100 := by rw [WW_def]; exact hI
        have h3 := rv_lt ht hokf
        subst eA eC
        have h5 := cv_prod F i j
        rw [← hI, Nat.add_mul_mod_self_right, Nat.mod_eq_of_lt h3] at h5
        exact m_vret hx hb hr hlocks hsz hU ⟨f, rfl, hokf, by rw [← eF]; exact h1, by rw [← eF]; exact h5⟩ d_M_multiply_124
      · exact absurd (Int32.le_refl _) c25
    | succ d ih =>
      intro k f cr c4 H locs ls hm ho hmz hoz hk h1 h2 hc4 hc hI hU hl
      have L : ∀ (r u : Nat) (s9 : Int64) (H : Heap) (locs : List Loc) (ls : Array Slot), u + r = k + 1 → s9.toInt = (cr : Int) + (sm (fun m => A m * C (k - m)) u : Int) → Ms z (mF g f) s.heap H locs s → lv_has ls 12 [(0, .ref (oM z)), (1, .int (nI to)), (2, .int (nI i)), (3, .int (nI j)), (4, .long c4), (6, .int (nI many)), (7, .int (nI other)), (8, .int (nI k)), (9, .long s9), (11, .int (nI u))] → (u = k + 1 ∨ k < u + other) → W p l e ({ frames := 2, cells := 0, slots := 0, locals := 44 } : Room) s m ([.ref (oM z), .int (nI to), .int (nI i), .int (nI j)] : List Value).toArray below meth c H locs 0 0 (MQ below (va_Qv (fun g2 => ∃ f, g2 = mF g f ∧ dgOk f ∧ rsm g.2.2.2.2.2 f to ∧ rv f to = rv g.2.2.2.2.2 i * rv g.2.2.2.2.2 j % WW) (mO z sz) (yA z sz)) ([.ref (oM z), .int (nI to), .int (nI i), .int (nI j)] : List Value).toArray s 0 0 (yA z sz)) (F0 m 52 ls []) := by
        intro r
        induction r with
        | zero =>
          intro u s9 H locs ls hu hs hU hl hlo
          have hu : u = k + 1 := by omega
          subst hu
          refine lv_iload hx hb d_M_multiply_52 (lv_at hl 9 rfl) ?_
          refine lv_iload hx hb d_M_multiply_54 (lv_at hl 7 rfl) ?_
          refine lv_icmp_gt (tgt := 97) hx hb d_M_multiply_56 (by decide) (fun c56 => ?_) (fun c56 => ?_)
          · exact E d k f cr c4 s9 _ _ _ _ _ ls (fun k f cr c4 H locs ls a1 a2 a3 a4 a5 a6 a7 a8 => ih k f cr c4 H locs ls hm ho hmz hoz a1 a2 a3 a4 a5 a6 a7 a8) hk h1 h2 hc hI hs hU hl
          · exact absurd (nI_lt (a := k) (b := k + 1) (by omega) (by omega)) c56
        | succ r ihr =>
          intro u s9 H locs ls hu hs hU hl hlo
          refine lv_iload hx hb d_M_multiply_52 (lv_at hl 9 rfl) ?_
          refine lv_iload hx hb d_M_multiply_54 (lv_at hl 7 rfl) ?_
          refine lv_icmp_gt (tgt := 97) hx hb d_M_multiply_56 (by decide) (fun c56 => ?_) (fun c56 => ?_)
          · exact absurd c56 (nI_nlt (by omega) (by omega))
          · refine lv_iload hx hb d_M_multiply_59 (lv_at hl 9 rfl) ?_
            refine lv_iload hx hb d_M_multiply_61 (lv_at hl 5 rfl) ?_
            refine lv_icmp_ge (tgt := 97) hx hb d_M_multiply_63 (by decide) (fun c63 => ?_) (fun c63 => ?_)
            · have h63 : many ≤ u := (nI_leI (by omega) (by omega)).mp c63
              have hE : sm (fun m => A m * C (k - m)) (k + 1) = sm (fun m => A m * C (k - m)) u := sm_ext (by omega) (fun m q1 q2 => by
                show A m * C (k - m) = 0
                rw [hmz m (by omega) (by omega), Nat.zero_mul])
              exact E d k f cr c4 s9 _ _ _ _ _ ls (fun k f cr c4 H locs ls a1 a2 a3 a4 a5 a6 a7 a8 => ih k f cr c4 H locs ls hm ho hmz hoz a1 a2 a3 a4 a5 a6 a7 a8) hk h1 h2 hc hI (by rw [hs, cv, hE]) hU hl
            · refine lv_lload hx hb d_M_multiply_66 (lv_at hl 8 rfl) ?_
              refine lv_aload_n hx hb d_M_multiply_68 rfl (lv_at hl 0 rfl) ?_
              refine lv_iload_n hx hb d_M_multiply_69 rfl (lv_at hl 2 rfl) ?_
              refine lv_iload hx hb d_M_multiply_70 (lv_at hl 9 rfl) ?_
              refine m_calli (m_run (As := [.int (nI i), .int (nI u)]) (rest := [.long s9]) hx hb hml hown hts hU (cm_get l z _ (mF g f) hi (k := u) (by omega)) (w_M_get_cw hts k_M_33 rfl rfl ⟨Nat.le_of_ble_eq_true rfl, Nat.le_of_ble_eq_true rfl⟩) (m_recv hU) rfl hl.1 rfl (lv_room (Nat.le_of_ble_eq_true rfl)) d_M_multiply_72 ⟨Nat.zero_le _, Nat.zero_le _⟩) hU (fun r72 g72 H locs hp hU => ?_)
              obtain ⟨rfl, q72⟩ := hp
              have q72 : r72 = F (1100 * i + u) := by rw [q72]; exact h1 _ (by omega)
              refine lv_i2l hx hb d_M_multiply_75 rfl ?_
              refine lv_topl (fun x75 ex75 => ?_)
              refine lv_aload_n hx hb d_M_multiply_76 rfl (lv_at hl 0 rfl) ?_
              refine lv_iload_n hx hb d_M_multiply_77 rfl (lv_at hl 3 rfl) ?_
              refine lv_iload hx hb d_M_multiply_78 (lv_at hl 7 rfl) ?_
              refine lv_iload hx hb d_M_multiply_80 (lv_at hl 9 rfl) ?_
              refine lv_isub hx hb d_M_multiply_82 ?_
              refine lv_topi (fun x82 ex82 => ?_)
              have e82 : x82 = nI (k - u) := by rw [ex82]; exact pk_sub (by omega)
              rw [e82]
              refine m_calli (m_run (As := [.int (nI j), .int (nI (k - u))]) (rest := [.long x75, .long s9]) hx hb hml hown hts hU (cm_get l z _ (mF g f) hj (k := k - u) (by omega)) (w_M_get_cw hts k_M_33 rfl rfl ⟨Nat.le_of_ble_eq_true rfl, Nat.le_of_ble_eq_true rfl⟩) (m_recv hU) rfl hl.1 rfl (lv_room (Nat.le_of_ble_eq_true rfl)) d_M_multiply_83 ⟨Nat.zero_le _, Nat.zero_le _⟩) hU (fun r83 g83 H locs hp hU => ?_)
              obtain ⟨rfl, q83⟩ := hp
              have q83 : r83 = F (1100 * j + (k - u)) := by rw [q83]; exact h1 _ (by omega)
              refine lv_i2l hx hb d_M_multiply_86 rfl ?_
              refine lv_topl (fun x86 ex86 => ?_)
              refine lv_lmul hx hb d_M_multiply_87 ?_
              refine lv_topl (fun x87 ex87 => ?_)
              refine lv_ladd hx hb d_M_multiply_88 ?_
              refine lv_topl (fun x88 ex88 => ?_)
              refine lv_lstore (lv' := [(9, .long x88), (0, .ref (oM z)), (1, .int (nI to)), (2, .int (nI i)), (3, .int (nI j)), (4, .long c4), (6, .int (nI many)), (7, .int (nI other)), (8, .int (nI k)), (11, .int (nI u))]) hx hb d_M_multiply_89 hl (by decide) rfl (fun ls hl => ?_)
              obtain ⟨x91, ex91⟩ : ∃ y : Int32, y = (nI u) + Int32.ofInt 1 := ⟨_, rfl⟩
              refine lv_iinc (v := x91) (lv' := [(11, .int x91), (9, .long x88), (0, .ref (oM z)), (1, .int (nI to)), (2, .int (nI i)), (3, .int (nI j)), (4, .long c4), (6, .int (nI many)), (7, .int (nI other)), (8, .int (nI k))]) hx hb d_M_multiply_91 hl (k := 9) rfl (by rw [ex91]) (by decide) rfl (fun ls hl => ?_)
              refine lv_goto (tgt := 52) hx hb d_M_multiply_94 (by decide) ?_
              have w1 := hokF (1100 * i + u) (by omega)
              have w2 := hokF (1100 * j + (k - u)) (by omega)
              have a1 : wn (F (1100 * i + u)) = A u := by rw [eA]
              have a2 : wn (F (1100 * j + (k - u))) = C (k - u) := by rw [eC]
              have t75 : x75.toInt = (A u : Int) := by rw [ex75, Jvm.Kit.i64_of_i32, q72, dg_int w1, a1]
              have t86 : x86.toInt = (C (k - u) : Int) := by rw [ex86, Jvm.Kit.i64_of_i32, q83, dg_int w2, a2]
              have hb1 := hAC k u (by omega) (by omega)
              have hb2 : sm (fun m => A m * C (k - m)) u ≤ u * 4294836225 := sm_le (fun m hm => hAC k m (by omega) (by omega))
              have t87 : x87.toInt = ((A u * C (k - u) : Nat) : Int) := by rw [ex87, Jvm.Kit.i64_mul] <;> rw [t75, t86, ← Int.natCast_mul] <;> omega
              have t88 : x88.toInt = (cr : Int) + (sm (fun m => A m * C (k - m)) (u + 1) : Int) := by
                rw [sm_s, Int.natCast_add]
                show x88.toInt = (cr : Int) + ((sm (fun m => A m * C (k - m)) u : Int) + ((A u * C (k - u) : Nat) : Int))
                rw [ex88, Jvm.Kit.i64_add] <;> rw [hs, t87] <;> omega
              rw [ex91, show Int32.ofInt 1 = 1 from rfl, nI_1] at hl
              exact ihr (u + 1) x88 _ _ ls (by omega) t88 hU (lv_sub hl [2, 3, 4, 5, 6, 7, 8, 9, 1, 0] rfl) (by omega)
      refine lv_iload hx hb d_M_multiply_20 (lv_at hl 7 rfl) ?_
      refine lv_sipush (v := 1100) hx hb d_M_multiply_22 (by decide) ?_
      refine lv_icmp_ge (tgt := 124) hx hb d_M_multiply_25 (by decide) (fun c25 => ?_) (fun c25 => ?_)
      · exact absurd c25 (nI_ge (a := k) (b := 1100) (by omega) (by decide))
      · refine lv_lload hx hb d_M_multiply_28 (lv_at hl 4 rfl) ?_
        refine lv_lstore (lv' := [(9, .long c4), (0, .ref (oM z)), (1, .int (nI to)), (2, .int (nI i)), (3, .int (nI j)), (4, .long c4), (6, .int (nI many)), (7, .int (nI other)), (8, .int (nI k))]) hx hb d_M_multiply_30 hl (by decide) rfl (fun ls hl => ?_)
        refine lv_iload hx hb d_M_multiply_32 (lv_at hl 8 rfl) ?_
        refine lv_iload hx hb d_M_multiply_34 (lv_at hl 7 rfl) ?_
        refine lv_icmp_ge (tgt := 43) hx hb d_M_multiply_36 (by decide) (fun c36 => ?_) (fun c36 => ?_)
        · have h36 : other ≤ k := (nI_leI (by omega) (by omega)).mp c36
          refine lv_iload hx hb d_M_multiply_43 (lv_at hl 8 rfl) ?_
          refine lv_iload hx hb d_M_multiply_45 (lv_at hl 7 rfl) ?_
          refine lv_isub hx hb d_M_multiply_47 ?_
          refine lv_topi (fun x47 ex47 => ?_)
          refine lv_iconst (v := 1) hx hb d_M_multiply_48 (by decide) ?_
          refine lv_iadd hx hb d_M_multiply_49 ?_
          refine lv_topi (fun x49 ex49 => ?_)
          have e49 : x49 = nI (k - other + 1) := by rw [ex49, ex47, pk_sub h36]; exact nI_1 _
          rw [e49]
          refine lv_istore (lv' := [(11, .int (nI (k - other + 1))), (9, .long c4), (0, .ref (oM z)), (1, .int (nI to)), (2, .int (nI i)), (3, .int (nI j)), (4, .long c4), (6, .int (nI many)), (7, .int (nI other)), (8, .int (nI k))]) hx hb d_M_multiply_50 hl (by decide) rfl (fun ls hl => ?_)
          exact L (other) (k - other + 1) c4 _ _ ls (by omega) (by rw [hc4, sm_zero (fun m hm => by show A m * C (k - m) = 0; rw [hoz (k - m) (by omega) (by omega), Nat.mul_zero])]; omega) hU (lv_sub hl [2, 3, 4, 5, 6, 7, 8, 9, 1, 0] rfl) (by omega)
        · have h36 : k < other := Nat.lt_of_not_le (fun q => c36 ((nI_leI (by omega) (by omega)).mpr q))
          refine lv_iconst (v := 0) hx hb d_M_multiply_39 (by decide) ?_
          refine lv_goto (tgt := 50) hx hb d_M_multiply_40 (by decide) ?_
          refine lv_istore (lv' := [(11, .int 0), (9, .long c4), (0, .ref (oM z)), (1, .int (nI to)), (2, .int (nI i)), (3, .int (nI j)), (4, .long c4), (6, .int (nI many)), (7, .int (nI other)), (8, .int (nI k))]) hx hb d_M_multiply_50 hl (by decide) rfl (fun ls hl => ?_)
          exact L (k + 1) 0 c4 _ _ ls (by omega) (by rw [hc4]; show (cr : Int) = (cr : Int) + 0; omega) hU (lv_sub hl [2, 3, 4, 5, 6, 7, 8, 9, 1, 0] rfl) (by omega)
  refine lv_lconst (v := 0) hx hb d_M_multiply_0 (by decide) ?_
  refine lv_lstore (lv' := [(4, .long 0), (0, .ref (oM z)), (1, .int (nI to)), (2, .int (nI i)), (3, .int (nI j))]) hx hb d_M_multiply_1 hl (by decide) rfl (fun ls hl => ?_)
  refine lv_aload_n hx hb d_M_multiply_3 rfl (lv_at hl 1 rfl) ?_
  refine lv_iload_n hx hb d_M_multiply_4 rfl (lv_at hl 3 rfl) ?_
  refine m_calli (m_run (As := [.int (nI i)]) (rest := []) hx hb hml hown hts hU (cm_length l z _ g hi) (w_M_length_cw hts k_M_37 rfl rfl ⟨Nat.le_of_ble_eq_true rfl, Nat.le_of_ble_eq_true rfl⟩) (m_recv hU) rfl hl.1 rfl (lv_room (Nat.le_of_ble_eq_true rfl)) d_M_multiply_5 ⟨Nat.zero_le _, Nat.zero_le _⟩) hU (fun r5 g5 H locs hp hU => ?_)
  obtain ⟨q5, many, hm, e5, hmz, -⟩ := hp
  rw [q5] at hU
  rw [e5]
  refine lv_istore (lv' := [(6, .int (nI many)), (4, .long 0), (0, .ref (oM z)), (1, .int (nI to)), (2, .int (nI i)), (3, .int (nI j))]) hx hb d_M_multiply_8 hl (by decide) rfl (fun ls hl => ?_)
  refine lv_aload_n hx hb d_M_multiply_10 rfl (lv_at hl 2 rfl) ?_
  refine lv_iload_n hx hb d_M_multiply_11 rfl (lv_at hl 5 rfl) ?_
  refine m_calli (m_run (As := [.int (nI j)]) (rest := []) hx hb hml hown hts hU (cm_length l z _ g hj) (w_M_length_cw hts k_M_37 rfl rfl ⟨Nat.le_of_ble_eq_true rfl, Nat.le_of_ble_eq_true rfl⟩) (m_recv hU) rfl hl.1 rfl (lv_room (Nat.le_of_ble_eq_true rfl)) d_M_multiply_12 ⟨Nat.zero_le _, Nat.zero_le _⟩) hU (fun r12 g12 H locs hp hU => ?_)
  obtain ⟨q12, other, ho, e12, hoz, -⟩ := hp
  rw [q12] at hU
  rw [e12]
  refine lv_istore (lv' := [(7, .int (nI other)), (6, .int (nI many)), (4, .long 0), (0, .ref (oM z)), (1, .int (nI to)), (2, .int (nI i)), (3, .int (nI j))]) hx hb d_M_multiply_15 hl (by decide) rfl (fun ls hl => ?_)
  refine lv_iconst (v := 0) hx hb d_M_multiply_17 (by decide) ?_
  refine lv_istore (lv' := [(8, .int 0), (7, .int (nI other)), (6, .int (nI many)), (4, .long 0), (0, .ref (oM z)), (1, .int (nI to)), (2, .int (nI i)), (3, .int (nI j))]) hx hb d_M_multiply_18 hl (by decide) rfl (fun ls hl => ?_)
  exact K many other 1100 0 F 0 0 _ _ ls hm ho (fun m h1 h2 => by rw [eA]; show wn (F (1100 * i + m)) = 0; rw [eF, hmz m h1 h2]; rfl) (fun m h1 h2 => by rw [eC]; show wn (F (1100 * j + m)) = 0; rw [eF, hoz m h1 h2]; rfl) (by decide) (fun _ _ => rfl) (fun q h => by omega) rfl (by decide) rfl (by rw [eF]; exact hU) (lv_sub hl [4, 5, 6, 7, 3, 2, 1, 0] rfl)
