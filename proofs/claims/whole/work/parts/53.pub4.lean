/-! power of the class -/
theorem cg_mul {M a A b B : Int} (h : a % M = A % M) (k : b % M = B % M) : (a * b) % M = (A * B) % M := by rw [Int.mul_emod, h, k, ← Int.mul_emod]
theorem cg_sub {M a A b B : Int} (h : a % M = A % M) (k : b % M = B % M) : (a - b) % M = (A - B) % M := by rw [Int.sub_emod, h, k, ← Int.sub_emod]
theorem cg_r {M a A : Int} (h : a = A % M) : a % M = A % M := by rw [h, Int.emod_emod_of_dvd _ (Int.dvd_refl M)]
theorem mb31 {a b M : Int} (hM : M ≤ 2147483648) (a0 : 0 ≤ a) (a1 : a < M) (b0 : 0 ≤ b) (b1 : b < M) : 0 ≤ a * b ∧ a * b < 4611686018427387904 := by
  refine ⟨Int.mul_nonneg a0 b0, ?_⟩
  have h : (a * b).natAbs ≤ 2147483647 * 2147483647 := by rw [Int.natAbs_mul]; exact Nat.mul_le_mul (by omega) (by omega)
  omega
theorem uq_even (t : Int) (k : Nat) : (uq t k).1 * (2 * (uq t (k + 1)).1 - t * (uq t k).1) = (uq t (2 * k)).1 := by
  have h := (uq_add t k k).1
  rw [show 2 * k = k + k by omega, h, uq_s1]
  generalize (uq t k).1 = a
  generalize (uq t k).2 = b
  simp only [Int.mul_add, Int.mul_sub]
  have e1 : a * (2 * (t * a)) = 2 * (a * (t * a)) := by ac_rfl
  have e2 : a * (2 * b) = 2 * (a * b) := by ac_rfl
  have e3 : b * a = a * b := Int.mul_comm _ _
  omega
theorem uq_odd (t : Int) (k : Nat) : (uq t (k + 1)).1 * (uq t (k + 1)).1 - (uq t k).1 * (uq t k).1 = (uq t (2 * k + 1)).1 := by
  have h := (uq_add t k (k + 1)).1
  rw [show 2 * k + 1 = k + 1 + k by omega, h, uq_s2, Int.neg_mul]
  rfl
theorem uq_next (t : Int) (k : Nat) : t * (uq t (k + 1)).1 - (uq t k).1 = (uq t (k + 1 + 1)).1 := by
  rw [uq_s1 t (k + 1), uq_s2]
  rfl
theorem uq_pw0 (t u : Int) (n : Nat) : 2 * (uq t (n + 1)).1 - t * (uq t n).1 = pw t u n 0 := by
  rw [pw, if_pos rfl, uq_s1, Int.mul_add]
  omega
theorem ush31 : ∀ q, q < 31 → (((nI q).toUInt32 &&& Int32.toUInt32 31).toBitVec % 32).toNat = q := by decide
set_option maxHeartbeats 4000000 in
set_option maxRecDepth 100000 in
theorem c_power (l : Launch) (z : ZZ) (sz : Nat) (g : St) {n9 m9 w9 : Int32} {T U : Int} (h0 : bOk (g.2.2.2 0)) (h1 : bOk (g.2.2.2 1)) (hT : bz (g.2.2.2 0) = T) (hU9 : bz (g.2.2.2 1) = U) (hpre : 0 ≤ n9.toInt ∧ 1 ≤ m9.toInt ∧ (0 ≤ w9.toInt ∧ w9.toInt ≤ 1)) : Met l y_U_power (zw y_U_power b_U_power 15 (some .int)) { frames := 7, cells := 0, slots := 0, locals := 130 } (va_Pc [.ref (mA z), .int n9, .int m9, .int w9] (zI z g sz)) (va_Qi (fun r g2 => g2 = g ∧ r.toInt = pw T U n9.toInt.toNat w9 % m9.toInt) (zO z sz) (zA z sz)) 0 0 (zA z sz) := by
  refine z_ofW (by decide) (Nat.le_of_ble_eq_true rfl) (fun p e s m below meth c hx hb hr hml hown hts hlocks hname hsz hN ls hU hl => ?_)
  have hl : lv_has ls 15 [(0, .ref (mA z)), (1, .int n9), (2, .int m9), (3, .int w9)] := hl
  obtain ⟨h2, h7, h14⟩ := hpre
  obtain ⟨N, eN⟩ : ∃ N, N = n9.toInt.toNat := ⟨_, rfl⟩
  obtain ⟨M, eM⟩ : ∃ M, M = m9.toInt.toNat := ⟨_, rfl⟩
  have hnr := i32_rng n9
  have hmr := i32_rng m9
  have hNN : N < 2 ^ 31 := by omega
  have hM : M < 2 ^ 31 := by omega
  have hM0 : 0 < M := by omega
  have hMi : (M : Int) ≤ 2147483648 := by omega
  have hn9 : n9 = nI N := by apply Int32.toInt_inj.mp; rw [nI_toInt (by omega)]; omega
  have hm9n : m9 = nI M := by apply Int32.toInt_inj.mp; rw [nI_toInt (by omega)]; omega
  have hmI : m9.toInt = (M : Int) := by omega
  have hm9 : ∀ x : Int64, x = m9.toInt64 → x.toInt = (M : Int) := fun x hx => by rw [hx, Jvm.Kit.i64_of_i32, hmI]
  have hne : ∀ x : Int64, x.toInt = (M : Int) → ¬ x = 0 := fun x hx q => by
    rw [q] at hx
    have : (0 : Int) = (M : Int) := hx
    omega
  have hbb : ∀ x : Int, 0 ≤ x % (M : Int) ∧ x % (M : Int) < (M : Int) := fun x => ⟨Int.emod_nonneg _ (by omega), Int.emod_lt_of_pos _ (by omega)⟩
  have hrem : ∀ (x y : Int64) (X : Int), y.toInt = (M : Int) → x.toInt = X → 0 ≤ X → (x - x / y * y).toInt = X % (M : Int) := fun x y X hy hx h => by
    rw [Jvm.Kit.i64_rem, hy, hx]
    exact Int.tmod_eq_emod_of_nonneg h
  clear hmr hnr
  have hF : ∀ (x y w : Int64) (H9 L9 : Int), (x.toInt = H9 % M) → (y.toInt = T % M) → (w.toInt = L9 % M) → (2 * x - y * w).toInt % (M : Int) = (2 * H9 - T * L9) % (M : Int) := fun x y w H9 L9 hx hy hw => by
    have q1 := hbb H9
    have q2 := hbb T
    have q3 := hbb L9
    rw [← hx] at q1
    rw [← hy] at q2
    rw [← hw] at q3
    have q4 := mb31 hMi q2.1 q2.2 q3.1 q3.2
    have e1 : (2 * x).toInt = 2 * x.toInt := by rw [Jvm.Kit.i64_mul] <;> rw [show (2 : Int64).toInt = 2 from rfl] <;> omega
    have e2 : (y * w).toInt = y.toInt * w.toInt := Jvm.Kit.i64_mul (by omega) (by omega)
    have e3 : (2 * x - y * w).toInt = 2 * x.toInt - y.toInt * w.toInt := by rw [Jvm.Kit.i64_sub] <;> rw [e1, e2] <;> omega
    rw [e3]
    exact cg_sub (cg_mul rfl (cg_r hx)) (cg_mul (cg_r hy) (cg_r hw))
  have E182 : ∀ (r : Int64) (H : Heap) (locs : List Loc) (ls : Array Slot), r.toInt = pw T U N w9 % (M : Int) → Ws z g s.heap H locs s → lv_has ls 15 [(0, .ref (mA z)), (1, .int n9)] → W p l e ({ frames := 7, cells := 0, slots := 0, locals := 130 } : Room) s m ([.ref (mA z), .int n9, .int m9, .int w9] : List Value).toArray below meth c H locs 0 0 (MQ below (va_Qi (fun r g2 => g2 = g ∧ r.toInt = pw T U n9.toInt.toNat w9 % m9.toInt) (zO z sz) (zA z sz)) ([.ref (mA z), .int n9, .int m9, .int w9] : List Value).toArray s 0 0 (zA z sz)) (F0 m 182 ls [.long r]) := by
    intro r H locs ls hr9 hU hl
    refine lv_lstore (lv' := [(10, .long r), (0, .ref (mA z)), (1, .int n9)]) hx hb d_U_power_182 hl (by decide) rfl (fun ls hl => ?_)
    refine lv_lload hx hb d_U_power_184 (lv_at hl 0 rfl) ?_
    refine lv_l2i hx hb d_U_power_186 rfl ?_
    refine lv_topi (fun x186 ex186 => ?_)
    have q := hbb (pw T U N w9)
    have t186 : x186.toInt = pw T U N w9 % (M : Int) := by
      rw [ex186]
      rw [← hr9] at q ⊢
      exact Jvm.Kit.i32_of_i64 (by omega) (by omega)
    exact z_iret hx hb hr hlocks hsz hU ⟨rfl, by rw [t186, ← eN, hmI]⟩ d_U_power_187
  have K : ∀ (q : Nat) (v10 : Int32) (tr lo hi : Int64) (H : Heap) (locs : List Loc) (ls : Array Slot), q ≤ 31 → v10.toInt = (q : Int) - 1 → tr.toInt = T % M → lo.toInt = (uq T (N / 2 ^ q)).1 % M → hi.toInt = (uq T (N / 2 ^ q + 1)).1 % M → Ws z g s.heap H locs s → lv_has ls 15 [(0, .ref (mA z)), (1, .int n9), (2, .int m9), (3, .int w9), (4, .long tr), (6, .long lo), (8, .long hi), (10, .int v10)] → W p l e ({ frames := 7, cells := 0, slots := 0, locals := 130 } : Room) s m ([.ref (mA z), .int n9, .int m9, .int w9] : List Value).toArray below meth c H locs 0 0 (MQ below (va_Qi (fun r g2 => g2 = g ∧ r.toInt = pw T U n9.toInt.toNat w9 % m9.toInt) (zO z sz) (zA z sz)) ([.ref (mA z), .int n9, .int m9, .int w9] : List Value).toArray s 0 0 (zA z sz)) (F0 m 51 ls []) := by
    intro q
    induction q with
    | zero =>
      intro v10 tr lo hi H locs ls hq hv10 htr hlo hhi hU hl
      rw [Nat.pow_zero, Nat.div_one] at hlo hhi
      refine lv_iload hx hb d_U_power_51 (lv_at hl 7 rfl) ?_
      refine lv_if_lt (tgt := 144) hx hb d_U_power_53 (by decide) (fun c53 => ?_) (fun c53 => ?_)
      · refine lv_iload_n hx hb d_U_power_144 rfl (lv_at hl 3 rfl) ?_
        refine lv_if_ne (tgt := 168) hx hb d_U_power_145 (by decide) (fun c145 => ?_) (fun c145 => ?_)
        · refine lv_aload_n hx hb d_U_power_168 rfl (lv_at hl 0 rfl) ?_
          refine va_get (D := z.1) (ci := 0) (v := .ref (oA z 1)) (C := R_U) (T := F_U) (N := 11) hx hb hts in_U hown hU.2.1 hU.1 0 rfl rfl 1 (by decide) (hts _ k_U_16) (fun _ h9 => h9) rfl d_U_power_169 ?_
          refine lv_iload_n hx hb d_U_power_172 rfl (lv_at hl 2 rfl) ?_
          refine z_calll (z_run (As := [.int m9]) (rest := []) hx hb hml hown hts hU hN (c_modulo2 l z _ g (i := 1) (by omega) h1 hM0 hM hm9n) (w_B_modulo_cw hts k_U_97 rfl rfl ⟨Nat.le_of_ble_eq_true rfl, Nat.le_of_ble_eq_true rfl⟩) (z_recvB hU (by omega)) rfl hl.1 rfl (lv_room (Nat.le_of_ble_eq_true rfl)) d_U_power_173 ⟨Nat.zero_le _, Nat.zero_le _⟩) hU (fun r173 g173 H locs hp hU => ?_)
          obtain ⟨q1, q2⟩ := hp
          rw [q1] at hU
          rw [hU9] at q2
          refine lv_lload hx hb d_U_power_176 (lv_at hl 5 rfl) ?_
          refine lv_lmul hx hb d_U_power_178 ?_
          refine lv_topl (fun x178 ex178 => ?_)
          refine lv_iload_n hx hb d_U_power_179 rfl (lv_at hl 2 rfl) ?_
          refine lv_i2l hx hb d_U_power_180 rfl ?_
          refine lv_topl (fun x180 ex180 => ?_)
          have f180 := hm9 x180 ex180
          have hne181 := hne x180 f180
          have b1 := hbb U
          have b2 := hbb (uq T N).1
          rw [← q2] at b1
          rw [← hlo] at b2
          have b3 := mb31 hMi b1.1 b1.2 b2.1 b2.2
          refine lv_lrem hx hb d_U_power_181 hne181 ?_
          refine lv_topl (fun x181 ex181 => ?_)
          have t178 : x178.toInt = r173.toInt * lo.toInt := by rw [ex178]; exact Jvm.Kit.i64_mul (by omega) (by omega)
          have hw : ¬ w9 = 0 := c145
          exact E182 x181 _ _ ls (by
            rw [ex181, hrem x178 x180 _ f180 t178 b3.1, pw, if_neg hw]
            exact cg_mul (cg_r q2) (cg_r hlo)) hU (lv_sub hl [0, 1] rfl)
        · refine lv_ldc2 (v := 2) hx hb hown (hts _ k_U_101) d_U_power_148 ?_
          refine lv_lload hx hb d_U_power_151 (lv_at hl 6 rfl) ?_
          refine lv_lmul hx hb d_U_power_153 ?_
          refine lv_topl (fun x153 ex153 => ?_)
          refine lv_lload hx hb d_U_power_154 (lv_at hl 4 rfl) ?_
          refine lv_lload hx hb d_U_power_156 (lv_at hl 5 rfl) ?_
          refine lv_lmul hx hb d_U_power_158 ?_
          refine lv_topl (fun x158 ex158 => ?_)
          refine lv_lsub hx hb d_U_power_159 ?_
          refine lv_topl (fun x159 ex159 => ?_)
          refine lv_iload_n hx hb d_U_power_160 rfl (lv_at hl 2 rfl) ?_
          refine lv_i2l hx hb d_U_power_161 rfl ?_
          refine lv_topl (fun x161 ex161 => ?_)
          have f161 := hm9 x161 ex161
          refine pr_call (As := [.long x159, .long x161]) (rest := []) hx hb hml hown hts (c_floorMod l x159 x161 (by omega)) (w_JM_floorMod_cw hts k_U_103 rfl rfl ⟨Nat.le_of_ble_eq_true rfl, Nat.le_of_ble_eq_true rfl⟩) rfl hl.1 rfl (lv_room (Nat.le_of_ble_eq_true rfl)) d_U_power_162 ⟨Nat.zero_le _, Nat.zero_le _⟩ ?_
          refine lv_topl (fun x162 ex162 => ?_)
          refine lv_goto (tgt := 182) hx hb d_U_power_165 (by decide) ?_
          have hw : w9 = 0 := c145
          exact E182 x162 _ _ ls (by
            rw [ex162, ofInt_emod (by omega), f161, ex159, ex153, ex158, hF hi tr lo _ _ hhi htr hlo, hw, uq_pw0 T U N]) hU (lv_sub hl [0, 1] rfl)
      · exact absurd (Int32.lt_iff_toInt_lt.mpr (by rw [hv10]; decide)) c53
    | succ q ih =>
      intro v10 tr lo hi H locs ls hq hv10 htr hlo hhi hU hl
      have hv8' : v10 = nI q := by apply Int32.toInt_inj.mp; rw [nI_toInt (by omega)]; omega
      have hhb := half_bit (N := N) (q := q)
      have E138 : ∀ (lo2 hi2 : Int64) (H : Heap) (locs : List Loc) (ls : Array Slot), lo2.toInt = (uq T (N / 2 ^ q)).1 % M → hi2.toInt = (uq T (N / 2 ^ q + 1)).1 % M → Ws z g s.heap H locs s → lv_has ls 15 [(0, .ref (mA z)), (1, .int n9), (2, .int m9), (3, .int w9), (4, .long tr), (6, .long lo2), (8, .long hi2), (10, .int v10)] → W p l e ({ frames := 7, cells := 0, slots := 0, locals := 130 } : Room) s m ([.ref (mA z), .int n9, .int m9, .int w9] : List Value).toArray below meth c H locs 0 0 (MQ below (va_Qi (fun r g2 => g2 = g ∧ r.toInt = pw T U n9.toInt.toNat w9 % m9.toInt) (zO z sz) (zA z sz)) ([.ref (mA z), .int n9, .int m9, .int w9] : List Value).toArray s 0 0 (zA z sz)) (F0 m 138 ls []) := by
        intro lo2 hi2 H locs ls e1 e2 hU hl
        obtain ⟨x138, ex138⟩ : ∃ y : Int32, y = v10 + Int32.ofInt (-1) := ⟨_, rfl⟩
        refine lv_iinc (v := x138) (lv' := [(10, .int x138), (0, .ref (mA z)), (1, .int n9), (2, .int m9), (3, .int w9), (4, .long tr), (6, .long lo2), (8, .long hi2)]) hx hb d_U_power_138 hl (k := 7) rfl (by rw [ex138]) (by decide) rfl (fun ls hl => ?_)
        refine lv_goto (tgt := 51) hx hb d_U_power_141 (by decide) ?_
        exact ih x138 tr lo2 hi2 _ _ ls (by omega) (by rw [ex138, Jvm.Kit.i32_add] <;> rw [hv10, show (Int32.ofInt (-1)).toInt = -1 from rfl] <;> omega) htr e1 e2 hU (lv_sub hl [1, 2, 3, 4, 5, 6, 7, 0] rfl)
      refine lv_iload hx hb d_U_power_51 (lv_at hl 7 rfl) ?_
      refine lv_if_lt (tgt := 144) hx hb d_U_power_53 (by decide) (fun c53 => ?_) (fun c53 => ?_)
      · exact absurd (Int32.lt_iff_toInt_lt.mp c53) (by rw [hv10, show (0 : Int32).toInt = 0 from rfl]; omega)
      · refine lv_lload hx hb d_U_power_56 (lv_at hl 5 rfl) ?_
        refine lv_ldc2 (v := 2) hx hb hown (hts _ k_U_101) d_U_power_58 ?_
        refine lv_lload hx hb d_U_power_61 (lv_at hl 6 rfl) ?_
        refine lv_lmul hx hb d_U_power_63 ?_
        refine lv_topl (fun x63 ex63 => ?_)
        refine lv_lload hx hb d_U_power_64 (lv_at hl 4 rfl) ?_
        refine lv_lload hx hb d_U_power_66 (lv_at hl 5 rfl) ?_
        refine lv_lmul hx hb d_U_power_68 ?_
        refine lv_topl (fun x68 ex68 => ?_)
        refine lv_lsub hx hb d_U_power_69 ?_
        refine lv_topl (fun x69 ex69 => ?_)
        refine lv_iload_n hx hb d_U_power_70 rfl (lv_at hl 2 rfl) ?_
        refine lv_i2l hx hb d_U_power_71 rfl ?_
        refine lv_topl (fun x71 ex71 => ?_)
        have f71 := hm9 x71 ex71
        refine pr_call (As := [.long x69, .long x71]) (rest := [.long lo]) hx hb hml hown hts (c_floorMod l x69 x71 (by omega)) (w_JM_floorMod_cw hts k_U_103 rfl rfl ⟨Nat.le_of_ble_eq_true rfl, Nat.le_of_ble_eq_true rfl⟩) rfl hl.1 rfl (lv_room (Nat.le_of_ble_eq_true rfl)) d_U_power_72 ⟨Nat.zero_le _, Nat.zero_le _⟩ ?_
        refine lv_topl (fun x72 ex72 => ?_)
        have t72 : x72.toInt = (2 * (uq T (N / 2 ^ (q + 1) + 1)).1 - T * (uq T (N / 2 ^ (q + 1))).1) % M := by rw [ex72, ofInt_emod (by omega), f71, ex69, ex63, ex68, hF hi tr lo _ _ hhi htr hlo]
        have b1 := hbb (uq T (N / 2 ^ (q + 1))).1
        have b2 := hbb (2 * (uq T (N / 2 ^ (q + 1) + 1)).1 - T * (uq T (N / 2 ^ (q + 1))).1)
        have b4 := hbb (uq T (N / 2 ^ (q + 1) + 1)).1
        rw [← hlo] at b1
        rw [← t72] at b2
        rw [← hhi] at b4
        have b3 := mb31 hMi b1.1 b1.2 b2.1 b2.2
        have b5 := mb31 hMi b1.1 b1.2 b1.1 b1.2
        have b6 := mb31 hMi b4.1 b4.2 b4.1 b4.2
        refine lv_lmul hx hb d_U_power_75 ?_
        refine lv_topl (fun x75 ex75 => ?_)
        refine lv_iload_n hx hb d_U_power_76 rfl (lv_at hl 2 rfl) ?_
        refine lv_i2l hx hb d_U_power_77 rfl ?_
        refine lv_topl (fun x77 ex77 => ?_)
        have f77 := hm9 x77 ex77
        have hne78 := hne x77 f77
        have t75 : x75.toInt = lo.toInt * x72.toInt := by rw [ex75]; exact Jvm.Kit.i64_mul (by omega) (by omega)
        refine lv_lrem hx hb d_U_power_78 hne78 ?_
        refine lv_topl (fun x78 ex78 => ?_)
        refine lv_lstore (lv' := [(11, .long x78), (0, .ref (mA z)), (1, .int n9), (2, .int m9), (3, .int w9), (4, .long tr), (6, .long lo), (8, .long hi), (10, .int v10)]) hx hb d_U_power_79 hl (by decide) rfl (fun ls hl => ?_)
        refine lv_lload hx hb d_U_power_81 (lv_at hl 7 rfl) ?_
        refine lv_lload hx hb d_U_power_83 (lv_at hl 7 rfl) ?_
        refine lv_lmul hx hb d_U_power_85 ?_
        refine lv_topl (fun x85 ex85 => ?_)
        refine lv_lload hx hb d_U_power_86 (lv_at hl 6 rfl) ?_
        refine lv_lload hx hb d_U_power_88 (lv_at hl 6 rfl) ?_
        refine lv_lmul hx hb d_U_power_90 ?_
        refine lv_topl (fun x90 ex90 => ?_)
        refine lv_lsub hx hb d_U_power_91 ?_
        refine lv_topl (fun x91 ex91 => ?_)
        refine lv_iload_n hx hb d_U_power_92 rfl (lv_at hl 3 rfl) ?_
        refine lv_i2l hx hb d_U_power_93 rfl ?_
        refine lv_topl (fun x93 ex93 => ?_)
        have t78 : x78.toInt = (uq T (2 * (N / 2 ^ (q + 1)))).1 % M := by
          rw [ex78, hrem x75 x77 _ f77 t75 b3.1, ← uq_even]
          exact cg_mul (cg_r hlo) (cg_r t72)
        have f93 := hm9 x93 ex93
        refine pr_call (As := [.long x91, .long x93]) (rest := []) hx hb hml hown hts (c_floorMod l x91 x93 (by omega)) (w_JM_floorMod_cw hts k_U_103 rfl rfl ⟨Nat.le_of_ble_eq_true rfl, Nat.le_of_ble_eq_true rfl⟩) rfl hl.1 rfl (lv_room (Nat.le_of_ble_eq_true rfl)) d_U_power_94 ⟨Nat.zero_le _, Nat.zero_le _⟩ ?_
        refine lv_topl (fun x94 ex94 => ?_)
        have t85 : x85.toInt = hi.toInt * hi.toInt := by rw [ex85]; exact Jvm.Kit.i64_mul (by omega) (by omega)
        have t90 : x90.toInt = lo.toInt * lo.toInt := by rw [ex90]; exact Jvm.Kit.i64_mul (by omega) (by omega)
        have t91 : x91.toInt = hi.toInt * hi.toInt - lo.toInt * lo.toInt := by rw [ex91, Jvm.Kit.i64_sub] <;> rw [t85, t90] <;> omega
        have t94 : x94.toInt = (uq T (2 * (N / 2 ^ (q + 1)) + 1)).1 % M := by
          rw [ex94, ofInt_emod (by omega), f93, t91, ← uq_odd]
          exact cg_sub (cg_mul (cg_r hhi) (cg_r hhi)) (cg_mul (cg_r hlo) (cg_r hlo))
        refine lv_lstore (lv' := [(13, .long x94), (11, .long x78), (0, .ref (mA z)), (1, .int n9), (2, .int m9), (3, .int w9), (4, .long tr), (6, .long lo), (8, .long hi), (10, .int v10)]) hx hb d_U_power_97 hl (by decide) rfl (fun ls hl => ?_)
        refine lv_iload_n hx hb d_U_power_99 rfl (lv_at hl 3 rfl) ?_
        refine lv_iload hx hb d_U_power_100 (lv_at hl 9 rfl) ?_
        refine lv_iushr hx hb d_U_power_102 rfl ?_
        refine lv_topi (fun x102 ex102 => ?_)
        refine lv_iconst (v := 1) hx hb d_U_power_103 (by decide) ?_
        refine lv_iand hx hb d_U_power_104 ?_
        refine lv_topi (fun x104 ex104 => ?_)
        have e104 : x104 = nI (N / 2 ^ q % 2) := by
          have h2 : N / 2 ^ q ≤ N := Nat.div_le_self _ _
          rw [ex104, ex102, hn9, hv8', pk_ushrN (by omega) _ q (ush31 q (by omega))]
          exact pk_andN (by omega) 1 (by decide)
        refine lv_if_ne (tgt := 119) hx hb d_U_power_105 (by decide) (fun c105 => ?_) (fun c105 => ?_)
        · have h105 : N / 2 ^ q % 2 = 1 := by
            have w : N / 2 ^ q % 2 ≠ 0 := fun w => c105 (by rw [e104, w]; rfl)
            omega
          rw [show 2 * (N / 2 ^ (q + 1)) + 1 = N / 2 ^ q by omega] at t94
          refine lv_lload hx hb d_U_power_119 (lv_at hl 0 rfl) ?_
          refine lv_lstore (lv' := [(6, .long x94), (13, .long x94), (11, .long x78), (0, .ref (mA z)), (1, .int n9), (2, .int m9), (3, .int w9), (4, .long tr), (8, .long hi), (10, .int v10)]) hx hb d_U_power_121 hl (by decide) rfl (fun ls hl => ?_)
          refine lv_lload hx hb d_U_power_123 (lv_at hl 7 rfl) ?_
          refine lv_lload hx hb d_U_power_125 (lv_at hl 1 rfl) ?_
          refine lv_lmul hx hb d_U_power_127 ?_
          refine lv_topl (fun x127 ex127 => ?_)
          refine lv_lload hx hb d_U_power_128 (lv_at hl 2 rfl) ?_
          refine lv_lsub hx hb d_U_power_130 ?_
          refine lv_topl (fun x130 ex130 => ?_)
          refine lv_iload_n hx hb d_U_power_131 rfl (lv_at hl 5 rfl) ?_
          refine lv_i2l hx hb d_U_power_132 rfl ?_
          refine lv_topl (fun x132 ex132 => ?_)
          have f132 := hm9 x132 ex132
          have b7 := hbb T
          have b8 := hbb (uq T (N / 2 ^ q)).1
          have b9 := hbb (uq T (2 * (N / 2 ^ (q + 1)))).1
          rw [← htr] at b7
          rw [← t94] at b8
          rw [← t78] at b9
          have b10 := mb31 hMi b7.1 b7.2 b8.1 b8.2
          have t127 : x127.toInt = tr.toInt * x94.toInt := by rw [ex127]; exact Jvm.Kit.i64_mul (by omega) (by omega)
          have t130 : x130.toInt = tr.toInt * x94.toInt - x78.toInt := by rw [ex130, Jvm.Kit.i64_sub] <;> rw [t127] <;> omega
          refine pr_call (As := [.long x130, .long x132]) (rest := []) hx hb hml hown hts (c_floorMod l x130 x132 (by omega)) (w_JM_floorMod_cw hts k_U_103 rfl rfl ⟨Nat.le_of_ble_eq_true rfl, Nat.le_of_ble_eq_true rfl⟩) rfl hl.1 rfl (lv_room (Nat.le_of_ble_eq_true rfl)) d_U_power_133 ⟨Nat.zero_le _, Nat.zero_le _⟩ ?_
          refine lv_topl (fun x133 ex133 => ?_)
          refine lv_lstore (lv' := [(8, .long x133), (6, .long x94), (13, .long x94), (11, .long x78), (0, .ref (mA z)), (1, .int n9), (2, .int m9), (3, .int w9), (4, .long tr), (10, .int v10)]) hx hb d_U_power_136 hl (by decide) rfl (fun ls hl => ?_)
          have t133 : x133.toInt = (uq T (N / 2 ^ q + 1)).1 % M := by
            rw [ex133, ofInt_emod (by omega), f132, t130, cg_sub (cg_mul (cg_r htr) (cg_r t94)) (cg_r t78), show N / 2 ^ q = 2 * (N / 2 ^ (q + 1)) + 1 by omega, uq_next]
          exact E138 x94 x133 _ _ ls t94 t133 hU (lv_sub hl [4, 5, 6, 7, 8, 1, 0, 9] rfl)
        · have h105 : N / 2 ^ q % 2 = 0 := by
            have w : N / 2 ^ q % 2 ≠ 1 := fun w => absurd (show x104 = 0 from c105) (by rw [e104, w]; decide)
            omega
          rw [show 2 * (N / 2 ^ (q + 1)) = N / 2 ^ q by omega] at t94 t78
          refine lv_lload hx hb d_U_power_108 (lv_at hl 1 rfl) ?_
          refine lv_lstore (lv' := [(6, .long x78), (13, .long x94), (11, .long x78), (0, .ref (mA z)), (1, .int n9), (2, .int m9), (3, .int w9), (4, .long tr), (8, .long hi), (10, .int v10)]) hx hb d_U_power_110 hl (by decide) rfl (fun ls hl => ?_)
          refine lv_lload hx hb d_U_power_112 (lv_at hl 1 rfl) ?_
          refine lv_lstore (lv' := [(8, .long x94), (6, .long x78), (13, .long x94), (11, .long x78), (0, .ref (mA z)), (1, .int n9), (2, .int m9), (3, .int w9), (4, .long tr), (10, .int v10)]) hx hb d_U_power_114 hl (by decide) rfl (fun ls hl => ?_)
          refine lv_goto (tgt := 138) hx hb d_U_power_116 (by decide) ?_
          exact E138 x78 x94 _ _ ls t78 t94 hU (lv_sub hl [4, 5, 6, 7, 8, 1, 0, 9] rfl)
  refine lv_iload_n hx hb d_U_power_0 rfl (lv_at hl 1 rfl) ?_
  refine lv_if_lt (tgt := 18) hx hb d_U_power_1 (by decide) (fun c1 => ?_) (fun c1 => ?_)
  · exact absurd (Int32.lt_iff_toInt_lt.mp c1) (by rw [show (0 : Int32).toInt = 0 from rfl]; omega)
  · refine lv_iload_n hx hb d_U_power_4 rfl (lv_at hl 2 rfl) ?_
    refine lv_iconst (v := 1) hx hb d_U_power_5 (by decide) ?_
    refine lv_icmp_lt (tgt := 18) hx hb d_U_power_6 (by decide) (fun c6 => ?_) (fun c6 => ?_)
    · exact absurd (Int32.lt_iff_toInt_lt.mp c6) (by rw [show (1 : Int32).toInt = 1 from rfl]; omega)
    · refine lv_iload_n hx hb d_U_power_9 rfl (lv_at hl 3 rfl) ?_
      refine lv_if_lt (tgt := 18) hx hb d_U_power_10 (by decide) (fun c10 => ?_) (fun c10 => ?_)
      · exact absurd (Int32.lt_iff_toInt_lt.mp c10) (by rw [show (0 : Int32).toInt = 0 from rfl]; omega)
      · refine lv_iload_n hx hb d_U_power_13 rfl (lv_at hl 3 rfl) ?_
        refine lv_iconst (v := 1) hx hb d_U_power_14 (by decide) ?_
        refine lv_icmp_le (tgt := 28) hx hb d_U_power_15 (by decide) (fun c15 => ?_) (fun c15 => ?_)
        · refine lv_aload_n hx hb d_U_power_28 rfl (lv_at hl 0 rfl) ?_
          refine va_get (D := z.1) (ci := 0) (v := .ref (oA z 0)) (C := R_U) (T := F_U) (N := 11) hx hb hts in_U hown hU.2.1 hU.1 0 rfl rfl 0 (by decide) (hts _ k_U_10) (fun _ h9 => h9) rfl d_U_power_29 ?_
          refine lv_iload_n hx hb d_U_power_32 rfl (lv_at hl 2 rfl) ?_
          refine z_calll (z_run (As := [.int m9]) (rest := []) hx hb hml hown hts hU hN (c_modulo2 l z _ g (i := 0) (by omega) h0 hM0 hM hm9n) (w_B_modulo_cw hts k_U_97 rfl rfl ⟨Nat.le_of_ble_eq_true rfl, Nat.le_of_ble_eq_true rfl⟩) (z_recvB hU (by omega)) rfl hl.1 rfl (lv_room (Nat.le_of_ble_eq_true rfl)) d_U_power_33 ⟨Nat.zero_le _, Nat.zero_le _⟩) hU (fun r33 g33 H locs hp hU => ?_)
          obtain ⟨q1, q2⟩ := hp
          rw [q1] at hU
          rw [hT] at q2
          have hne43 : ¬ m9 = 0 := fun q => by rw [q] at hmI; have : (0 : Int) = (M : Int) := hmI; omega
          refine lv_lstore (lv' := [(4, .long r33), (0, .ref (mA z)), (1, .int n9), (2, .int m9), (3, .int w9)]) hx hb d_U_power_36 hl (by decide) rfl (fun ls hl => ?_)
          refine lv_lconst (v := 0) hx hb d_U_power_38 (by decide) ?_
          refine lv_lstore (lv' := [(6, .long 0), (4, .long r33), (0, .ref (mA z)), (1, .int n9), (2, .int m9), (3, .int w9)]) hx hb d_U_power_39 hl (by decide) rfl (fun ls hl => ?_)
          refine lv_iconst (v := 1) hx hb d_U_power_41 (by decide) ?_
          refine lv_iload_n hx hb d_U_power_42 rfl (lv_at hl 4 rfl) ?_
          refine lv_irem hx hb d_U_power_43 hne43 ?_
          refine lv_topi (fun x43 ex43 => ?_)
          refine lv_i2l hx hb d_U_power_44 rfl ?_
          refine lv_topl (fun x44 ex44 => ?_)
          refine lv_lstore (lv' := [(8, .long x44), (6, .long 0), (4, .long r33), (0, .ref (mA z)), (1, .int n9), (2, .int m9), (3, .int w9)]) hx hb d_U_power_45 hl (by decide) rfl (fun ls hl => ?_)
          refine lv_bipush (v := 30) hx hb d_U_power_47 (by decide) ?_
          refine lv_istore (lv' := [(10, .int 30), (8, .long x44), (6, .long 0), (4, .long r33), (0, .ref (mA z)), (1, .int n9), (2, .int m9), (3, .int w9)]) hx hb d_U_power_49 hl (by decide) rfl (fun ls hl => ?_)
          have e43 : x43 = nI (1 % M) := by
            rw [ex43, hm9n, show (1 : Int32) = nI 1 from rfl]
            exact pk_rem (by decide) hM0 hM
          have hl1 := Nat.mod_lt 1 hM0
          have t44 : x44.toInt = 1 % (M : Int) := by rw [ex44, Jvm.Kit.i64_of_i32, e43, nI_toInt (by omega)]; rfl
          exact K 31 30 r33 0 x44 _ _ ls (Nat.le_refl _) rfl q2 (by rw [Nat.div_eq_of_lt hNN]; exact (Int.zero_emod _).symm) (by rw [Nat.div_eq_of_lt hNN, t44]; congr 1; exact (show (1 : Int) = T * 0 + 1 by omega)) hU (lv_sub hl [4, 5, 6, 7, 3, 2, 1, 0] rfl)
        · exact absurd (Int32.le_iff_toInt_le.mpr (by rw [show (1 : Int32).toInt = 1 from rfl]; omega)) c15
