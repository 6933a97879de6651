set_option maxHeartbeats 4000000 in
set_option maxRecDepth 100000 in
theorem cm_power (l : Launch) (z : YM) (sz : Nat) (g : SM) (n9 m9 w9 : Int32) {d a0 b0 c0 : Int} (hS : mS g d a0 b0 c0) : Met l y_M_power (zw y_M_power b_M_power 12 (some .int)) { frames := 4, cells := 0, slots := 0, locals := 102 } (va_Pc [.ref (oM z), .int n9, .int m9, .int w9] (mI z g sz)) (va_Qi (fun r g2 => ((0 ≤ n9.toInt ∧ 1 ≤ m9.toInt ∧ (0 ≤ w9.toInt ∧ w9.toInt ≤ 1)) → g2.1 = 0 ∧ mS g2 d a0 b0 c0 ∧ r.toInt = pw ((uW d).1 : Int) ((uW d).2.1 : Int) n9.toInt.toNat w9 % m9.toInt) ∧ (¬ (0 ≤ n9.toInt ∧ 1 ≤ m9.toInt ∧ (0 ≤ w9.toInt ∧ w9.toInt ≤ 1)) → g2 = mC g 1)) (mO z sz) (yA z sz)) 0 0 (yA z sz) := by
  refine m_ofW (by decide) (Nat.le_of_ble_eq_true rfl) (fun p e s m below meth c hx hb hr hml hown hts hlocks hname hsz ls hU hl => ?_)
  have hl : lv_has ls 12 [(0, .ref (oM z)), (1, .int n9), (2, .int m9), (3, .int w9)] := hl
  have E25 : ∀ (H : Heap) (locs : List Loc) (ls : Array Slot), ¬ (0 ≤ n9.toInt ∧ 1 ≤ m9.toInt ∧ (0 ≤ w9.toInt ∧ w9.toInt ≤ 1)) → Ms z g s.heap H locs s → lv_has ls 12 [(0, .ref (oM z)), (1, .int n9), (2, .int m9), (3, .int w9)] → W p l e ({ frames := 4, cells := 0, slots := 0, locals := 102 } : Room) s m ([.ref (oM z), .int n9, .int m9, .int w9] : List Value).toArray below meth c H locs 0 0 (MQ below (va_Qi (fun r g2 => ((0 ≤ n9.toInt ∧ 1 ≤ m9.toInt ∧ (0 ≤ w9.toInt ∧ w9.toInt ≤ 1)) → g2.1 = 0 ∧ mS g2 d a0 b0 c0 ∧ r.toInt = pw ((uW d).1 : Int) ((uW d).2.1 : Int) n9.toInt.toNat w9 % m9.toInt) ∧ (¬ (0 ≤ n9.toInt ∧ 1 ≤ m9.toInt ∧ (0 ≤ w9.toInt ∧ w9.toInt ≤ 1)) → g2 = mC g 1)) (mO z sz) (yA z sz)) ([.ref (oM z), .int n9, .int m9, .int w9] : List Value).toArray s 0 0 (yA z sz)) (F0 m 25 ls [.int 1, .ref (oM z)]) := by
    intro H locs ls hc hU hl
    refine mp_C hx hb hts hown hU (hts _ k_M_23) d_M_power_25 (fun H locs hU => ?_)
    generalize eg25 : mC g 1 = g25 at hU
    refine lv_aload_n hx hb d_M_power_28 rfl (lv_at hl 0 rfl) ?_
    refine va_get (D := z.1) (ci := 3) (v := .int g25.1) (C := R_M) (T := F_M) (N := 9) hx hb hts in_M hown hU.2.1 hU.1 0 rfl rfl 0 (by decide) (hts _ k_M_23) (fun _ h9 => h9) rfl d_M_power_29 ?_
    refine lv_topi (fun x29 ex29 => ?_)
    have e29 : x29 = 1 := by rw [ex29, ← eg25]; rfl
    refine lv_if_le (tgt := 37) hx hb d_M_power_32 (by decide) (fun c32 => ?_) (fun c32 => ?_)
    · exact absurd c32 (by rw [e29]; decide)
    · refine lv_iconst (v := 0) hx hb d_M_power_35 (by decide) ?_
      exact m_iret hx hb hr hlocks hsz hU ⟨fun q => absurd q hc, fun _ => by first | exact eg25.symm | rfl⟩ d_M_power_36
  refine lv_aload_n hx hb d_M_power_0 rfl (lv_at hl 0 rfl) ?_
  refine lv_iload_n hx hb d_M_power_1 rfl (lv_at hl 1 rfl) ?_
  refine lv_if_lt (tgt := 20) hx hb d_M_power_2 (by decide) (fun c2 => ?_) (fun c2 => ?_)
  · have h2 : n9.toInt < 0 := Int32.lt_iff_toInt_lt.mp c2
    refine lv_iconst (v := 1) hx hb d_M_power_20 (by decide) ?_
    refine lv_goto (tgt := 25) hx hb d_M_power_21 (by decide) ?_
    exact E25 _ _ ls (fun q => absurd q.1 (by omega)) hU hl
  · have h2 : 0 ≤ n9.toInt := by
      rcases Int.lt_or_le n9.toInt 0 with q | q
      · exact absurd (Int32.lt_iff_toInt_lt.mpr q) c2
      · exact q
    refine lv_iload_n hx hb d_M_power_5 rfl (lv_at hl 2 rfl) ?_
    refine lv_iconst (v := 1) hx hb d_M_power_6 (by decide) ?_
    refine lv_icmp_lt (tgt := 20) hx hb d_M_power_7 (by decide) (fun c7 => ?_) (fun c7 => ?_)
    · have h7 : m9.toInt < 1 := Int32.lt_iff_toInt_lt.mp c7
      refine lv_iconst (v := 1) hx hb d_M_power_20 (by decide) ?_
      refine lv_goto (tgt := 25) hx hb d_M_power_21 (by decide) ?_
      exact E25 _ _ ls (fun q => absurd q.2.1 (by omega)) hU hl
    · have h7 : 1 ≤ m9.toInt := by
        rcases Int.lt_or_le m9.toInt 1 with q | q
        · exact absurd (Int32.lt_iff_toInt_lt.mpr q) c7
        · exact q
      refine lv_iload_n hx hb d_M_power_10 rfl (lv_at hl 3 rfl) ?_
      refine lv_i2l hx hb d_M_power_11 rfl ?_
      refine lv_topl (fun x11 ex11 => ?_)
      refine lv_lconst (v := 0) hx hb d_M_power_12 (by decide) ?_
      refine lv_lconst (v := 1) hx hb d_M_power_13 (by decide) ?_
      have t11 : x11.toInt = w9.toInt := by rw [ex11]; exact Jvm.Kit.i64_of_i32 w9
      refine pr_call (As := [.long x11, .long 0, .long 1]) (rest := [.ref (oM z)]) hx hb hml hown hts (cm_in l x11 0 1) (w_M_in_cw hts k_M_88 rfl rfl ⟨Nat.le_of_ble_eq_true rfl, Nat.le_of_ble_eq_true rfl⟩) rfl hl.1 rfl (lv_room (Nat.le_of_ble_eq_true rfl)) d_M_power_14 ⟨Nat.zero_le _, Nat.zero_le _⟩ ?_
      refine lv_topi (fun x14 ex14 => ?_)
      rw [t11, show (0 : Int64).toInt = 0 from rfl, show (1 : Int64).toInt = 1 from rfl] at ex14
      refine lv_if_ne (tgt := 24) hx hb d_M_power_17 (by decide) (fun c17 => ?_) (fun c17 => ?_)
      · have h14 : 0 ≤ w9.toInt ∧ w9.toInt ≤ 1 := Classical.byContradiction fun q => c17 (by rw [ex14, if_neg q])
        have hpre : 0 ≤ n9.toInt ∧ 1 ≤ m9.toInt ∧ (0 ≤ w9.toInt ∧ w9.toInt ≤ 1) := ⟨h2, h7, h14⟩
        obtain ⟨T, eT⟩ : ∃ T, T = ((uW d).1 : Int) := ⟨_, rfl⟩
        obtain ⟨U, eU⟩ : ∃ U, U = ((uW d).2.1 : Int) := ⟨_, rfl⟩
        obtain ⟨N, eN⟩ : ∃ N, N = n9.toInt.toNat := ⟨_, rfl⟩
        obtain ⟨M, eM⟩ : ∃ M, M = m9.toInt.toNat := ⟨_, rfl⟩
        have hnr := i32_rng n9
        have hmr := i32_rng m9
        have hN : N < 2 ^ 31 := by omega
        have hM : M < 2 ^ 31 := by omega
        have hM0 : 0 < M := by omega
        have hn9 : n9 = nI N := by apply Int32.toInt_inj.mp; rw [nI_toInt (by omega)]; omega
        have hm9 : ∀ x : Int64, x = m9.toInt64 → x = lN M := fun x hx => by
          apply Int64.toInt_inj.mp
          rw [hx, Jvm.Kit.i64_of_i32, pk_lT (by omega)]
          omega
        have hmI : m9.toInt = (M : Int) := by omega
        have hne : ∀ x : Int64, x = lN M → ¬ x = 0 := fun x hx q => by
          rw [hx, show (0 : Int64) = lN 0 from rfl, pk_lEQ (by omega) (by decide)] at q
          omega
        have hS1 : ∀ g1 : SM, mS g1 d a0 b0 c0 → sv g1.2.2.2.2.2 0 = T ∧ sv g1.2.2.2.2.2 1 = U ∧ dgOk g1.2.2.2.2.2 := fun g1 h => by rw [eT, eU]; exact ⟨h.2.2.2.2.1.1, h.2.2.2.2.1.2.1, h.2.2.2.1⟩
        clear hmr hnr
        have hrm : ∀ (a b : Nat) (x y w v m1 m2 m3 : Int64), a < M → b < M → True := fun _ _ _ _ _ _ _ _ _ _ _ => trivial
        have E145 : ∀ (g1 : SM) (t9 u9 k1 k2 k3 k4 : Nat) (H : Heap) (locs : List Loc) (ls : Array Slot), g1.1 = 0 → mS g1 d a0 b0 c0 → (t9 : Int) = T % M → (u9 : Int) = U % M → mat T M N k1 k2 k3 k4 → g1.2.2.2.2.1 2 = lN k3 → g1.2.2.2.2.1 3 = lN k4 → Ms z g1 s.heap H locs s → lv_has ls 12 [(0, .ref (oM z)), (1, .int n9), (2, .int m9), (3, .int w9), (4, .long (lN t9)), (6, .long (lN u9))] → W p l e ({ frames := 4, cells := 0, slots := 0, locals := 102 } : Room) s m ([.ref (oM z), .int n9, .int m9, .int w9] : List Value).toArray below meth c H locs 0 0 (MQ below (va_Qi (fun r g2 => ((0 ≤ n9.toInt ∧ 1 ≤ m9.toInt ∧ (0 ≤ w9.toInt ∧ w9.toInt ≤ 1)) → g2.1 = 0 ∧ mS g2 d a0 b0 c0 ∧ r.toInt = pw ((uW d).1 : Int) ((uW d).2.1 : Int) n9.toInt.toNat w9 % m9.toInt) ∧ (¬ (0 ≤ n9.toInt ∧ 1 ≤ m9.toInt ∧ (0 ≤ w9.toInt ∧ w9.toInt ≤ 1)) → g2 = mC g 1)) (mO z sz) (yA z sz)) ([.ref (oM z), .int n9, .int m9, .int w9] : List Value).toArray s 0 0 (yA z sz)) (F0 m 145 ls []) := by
          intro g1 t9 u9 k1 k2 k3 k4 H locs ls hg0 hg1 ht9 hu9 hmat hz hv hU hl
          have hlt := hmat.lt hM0
          have hb1 := Int.emod_lt_of_pos T (show (0 : Int) < (M : Int) by omega)
          have hb2 := Int.emod_lt_of_pos U (show (0 : Int) < (M : Int) by omega)
          have hP : ∀ (u v : Nat) (y m1 : Int64), m1 = lN M → u < M → v < M → y = lN u * lN v - lN u * lN v / m1 * m1 → y = lN (u * v % M) := fun u v y m1 hm1 hu hv hy => by
            rw [hy, hm1, lN_mul]
            have : u * v ≤ 2147483648 * 2147483648 := Nat.mul_le_mul (by omega) (by omega)
            exact pk_lRem (by omega) hM0 (by omega)
          have hQ : ∀ (u v w t : Nat) (y m1 : Int64), m1 = lN M → y = (lN (u * v % M) + lN (w * t % M)) - (lN (u * v % M) + lN (w * t % M)) / m1 * m1 → y = lN ((u * v + w * t) % M) := fun u v w t y m1 hm1 hy => by
            have m1 := Nat.mod_lt (u * v) hM0
            have m2 := Nat.mod_lt (w * t) hM0
            rw [hy, hm1, lN_add, pk_lRem (by omega) hM0 (by omega), ← Nat.add_mod]
          have E172 : ∀ (o n : Nat) (v8 v10 : Int64) (H : Heap) (locs : List Loc) (ls : Array Slot), v8 = lN o → v10 = lN n → o < M → n < M → (((k3 * o + k4 * n) % M : Nat) : Int) = pw T U N w9 % M → Ms z g1 s.heap H locs s → lv_has ls 12 [(0, .ref (oM z)), (1, .int n9), (2, .int m9), (3, .int w9), (8, .long v8)] → W p l e ({ frames := 4, cells := 0, slots := 0, locals := 102 } : Room) s m ([.ref (oM z), .int n9, .int m9, .int w9] : List Value).toArray below meth c H locs 0 0 (MQ below (va_Qi (fun r g2 => ((0 ≤ n9.toInt ∧ 1 ≤ m9.toInt ∧ (0 ≤ w9.toInt ∧ w9.toInt ≤ 1)) → g2.1 = 0 ∧ mS g2 d a0 b0 c0 ∧ r.toInt = pw ((uW d).1 : Int) ((uW d).2.1 : Int) n9.toInt.toNat w9 % m9.toInt) ∧ (¬ (0 ≤ n9.toInt ∧ 1 ≤ m9.toInt ∧ (0 ≤ w9.toInt ∧ w9.toInt ≤ 1)) → g2 = mC g 1)) (mO z sz) (yA z sz)) ([.ref (oM z), .int n9, .int m9, .int w9] : List Value).toArray s 0 0 (yA z sz)) (F0 m 172 ls [.long v10]) := by
            intro o n v8 v10 H locs ls e8 e10 ho hn hans hU hl
            refine lv_lstore (lv' := [(10, .long v10), (0, .ref (oM z)), (1, .int n9), (2, .int m9), (3, .int w9), (8, .long v8)]) hx hb d_M_power_172 hl (by decide) rfl (fun ls hl => ?_)
            refine lv_aload_n hx hb d_M_power_174 rfl (lv_at hl 1 rfl) ?_
            refine va_get (D := z.1) (ci := 3) (v := .long (g1.2.2.2.2.1 2)) (C := R_M) (T := F_M) (N := 9) hx hb hts in_M hown hU.2.1 hU.1 0 rfl rfl 7 (by decide) (hts _ k_M_109) (fun _ h9 => h9) rfl d_M_power_175 ?_
            refine lv_topl (fun x175 ex175 => ?_)
            refine lv_lload hx hb d_M_power_178 (lv_at hl 5 rfl) ?_
            refine lv_lmul hx hb d_M_power_180 ?_
            refine lv_topl (fun x180 ex180 => ?_)
            refine lv_iload_n hx hb d_M_power_181 rfl (lv_at hl 3 rfl) ?_
            refine lv_i2l hx hb d_M_power_182 rfl ?_
            refine lv_topl (fun x182 ex182 => ?_)
            have f182 := hm9 x182 ex182
            have hne183 := hne x182 f182
            refine lv_lrem hx hb d_M_power_183 hne183 ?_
            refine lv_topl (fun x183 ex183 => ?_)
            refine lv_aload_n hx hb d_M_power_184 rfl (lv_at hl 1 rfl) ?_
            refine va_get (D := z.1) (ci := 3) (v := .long (g1.2.2.2.2.1 3)) (C := R_M) (T := F_M) (N := 9) hx hb hts in_M hown hU.2.1 hU.1 0 rfl rfl 8 (by decide) (hts _ k_M_112) (fun _ h9 => h9) rfl d_M_power_185 ?_
            refine lv_topl (fun x185 ex185 => ?_)
            refine lv_lload hx hb d_M_power_188 (lv_at hl 0 rfl) ?_
            refine lv_lmul hx hb d_M_power_190 ?_
            refine lv_topl (fun x190 ex190 => ?_)
            refine lv_iload_n hx hb d_M_power_191 rfl (lv_at hl 3 rfl) ?_
            refine lv_i2l hx hb d_M_power_192 rfl ?_
            refine lv_topl (fun x192 ex192 => ?_)
            have f192 := hm9 x192 ex192
            have hne193 := hne x192 f192
            refine lv_lrem hx hb d_M_power_193 hne193 ?_
            refine lv_topl (fun x193 ex193 => ?_)
            refine lv_ladd hx hb d_M_power_194 ?_
            refine lv_topl (fun x194 ex194 => ?_)
            refine lv_iload_n hx hb d_M_power_195 rfl (lv_at hl 3 rfl) ?_
            refine lv_i2l hx hb d_M_power_196 rfl ?_
            refine lv_topl (fun x196 ex196 => ?_)
            have f196 := hm9 x196 ex196
            have hne197 := hne x196 f196
            refine lv_lrem hx hb d_M_power_197 hne197 ?_
            refine lv_topl (fun x197 ex197 => ?_)
            refine lv_l2i hx hb d_M_power_198 rfl ?_
            refine lv_topi (fun x198 ex198 => ?_)
            have r183 : x183 = lN (k3 * o % M) := hP k3 o x183 x182 f182 hlt.2.2.1 ho (by rw [ex183, ex180, ex175, hz, e8])
            have r193 : x193 = lN (k4 * n % M) := hP k4 n x193 x192 f192 hlt.2.2.2 hn (by rw [ex193, ex190, ex185, hv, e10])
            have r197 : x197 = lN ((k3 * o + k4 * n) % M) := hQ k3 o k4 n x197 x196 f196 (by rw [ex197, ex194, r183, r193])
            have hlm := Nat.mod_lt (k3 * o + k4 * n) hM0
            have r198 : x198.toInt = (((k3 * o + k4 * n) % M : Nat) : Int) := by
              rw [ex198, r197, Jvm.Kit.i32_of_i64] <;> rw [pk_lT (by omega)] <;> omega
            exact m_iret hx hb hr hlocks hsz hU ⟨fun _ => ⟨hg0, hg1, by rw [r198, hans, ← eT, ← eU, ← eN, hmI]⟩, fun q => absurd hpre q⟩ d_M_power_199
          refine lv_iload_n hx hb d_M_power_145 rfl (lv_at hl 3 rfl) ?_
          refine lv_if_ne (tgt := 154) hx hb d_M_power_146 (by decide) (fun c146 => ?_) (fun c146 => ?_)
          · refine lv_lload hx hb d_M_power_154 (lv_at hl 5 rfl) ?_
            refine lv_lstore (lv' := [(8, .long (lN u9)), (0, .ref (oM z)), (1, .int n9), (2, .int m9), (3, .int w9), (4, .long (lN t9)), (6, .long (lN u9))]) hx hb d_M_power_156 hl (by decide) rfl (fun ls hl => ?_)
            refine lv_iload_n hx hb d_M_power_158 rfl (lv_at hl 4 rfl) ?_
            refine lv_if_ne (tgt := 171) hx hb d_M_power_159 (by decide) (fun c159 => ?_) (fun c159 => ?_)
            · refine lv_lconst (v := 0) hx hb d_M_power_171 (by decide) ?_
              have hw : ¬ w9 = 0 := c146
              exact E172 u9 0 (lN u9) 0 _ _ ls rfl rfl (by omega) (by omega) (by
                rw [mm2' hmat.2.2.1 hu9 hmat.2.2.2 (v := 0) (by rw [Int.zero_emod]; rfl) rfl, pw, if_neg hw, Int.mul_zero, Int.add_zero, Int.mul_comm]) hU (lv_sub hl [1, 2, 3, 4, 0] rfl)
            · exact absurd c159 c146
          · refine lv_lload hx hb d_M_power_149 (lv_at hl 4 rfl) ?_
            refine lv_goto (tgt := 156) hx hb d_M_power_151 (by decide) ?_
            refine lv_lstore (lv' := [(8, .long (lN t9)), (0, .ref (oM z)), (1, .int n9), (2, .int m9), (3, .int w9), (4, .long (lN t9)), (6, .long (lN u9))]) hx hb d_M_power_156 hl (by decide) rfl (fun ls hl => ?_)
            refine lv_iload_n hx hb d_M_power_158 rfl (lv_at hl 4 rfl) ?_
            refine lv_if_ne (tgt := 171) hx hb d_M_power_159 (by decide) (fun c159 => ?_) (fun c159 => ?_)
            · exact absurd c146 c159
            · refine lv_ldc2 (v := 2) hx hb hown (hts _ k_M_54) d_M_power_162 ?_
              refine lv_iload_n hx hb d_M_power_165 rfl (lv_at hl 3 rfl) ?_
              refine lv_i2l hx hb d_M_power_166 rfl ?_
              refine lv_topl (fun x166 ex166 => ?_)
              have f166 := hm9 x166 ex166
              have hne167 := hne x166 f166
              refine lv_lrem hx hb d_M_power_167 hne167 ?_
              refine lv_topl (fun x167 ex167 => ?_)
              refine lv_goto (tgt := 172) hx hb d_M_power_168 (by decide) ?_
              have hw : w9 = 0 := c146
              have r167 : x167 = lN (2 % M) := by
                rw [ex167, f166, show (2 : Int64) = lN 2 from rfl]
                exact pk_lRem (by decide) hM0 (by omega)
              exact E172 t9 (2 % M) (lN t9) x167 _ _ ls rfl r167 (by omega) (Nat.mod_lt _ hM0) (by
                rw [mm2' (d := 2 % M) hmat.2.2.1 ht9 hmat.2.2.2 (v := 2) rfl rfl, pw, if_pos hw, Int.mul_comm T, Int.mul_comm 2]) hU (lv_sub hl [1, 2, 3, 4, 0] rfl)
        have K : ∀ (q : Nat) (v8 : Int32) (g1 : SM) (t9 u9 k1 k2 k3 k4 : Nat) (H : Heap) (locs : List Loc) (ls : Array Slot), q ≤ 31 → v8.toInt = (q : Int) - 1 → g1.1 = 0 → mS g1 d a0 b0 c0 → (t9 : Int) = T % M → (u9 : Int) = U % M → mat T M (N / 2 ^ q) k1 k2 k3 k4 → g1.2.2.2.2.1 0 = lN k1 → g1.2.2.2.2.1 1 = lN k2 → g1.2.2.2.2.1 2 = lN k3 → g1.2.2.2.2.1 3 = lN k4 → Ms z g1 s.heap H locs s → lv_has ls 12 [(0, .ref (oM z)), (1, .int n9), (2, .int m9), (3, .int w9), (4, .long (lN t9)), (6, .long (lN u9)), (8, .int v8)] → W p l e ({ frames := 4, cells := 0, slots := 0, locals := 102 } : Room) s m ([.ref (oM z), .int n9, .int m9, .int w9] : List Value).toArray below meth c H locs 0 0 (MQ below (va_Qi (fun r g2 => ((0 ≤ n9.toInt ∧ 1 ≤ m9.toInt ∧ (0 ≤ w9.toInt ∧ w9.toInt ≤ 1)) → g2.1 = 0 ∧ mS g2 d a0 b0 c0 ∧ r.toInt = pw ((uW d).1 : Int) ((uW d).2.1 : Int) n9.toInt.toNat w9 % m9.toInt) ∧ (¬ (0 ≤ n9.toInt ∧ 1 ≤ m9.toInt ∧ (0 ≤ w9.toInt ∧ w9.toInt ≤ 1)) → g2 = mC g 1)) (mO z sz) (yA z sz)) ([.ref (oM z), .int n9, .int m9, .int w9] : List Value).toArray s 0 0 (yA z sz)) (F0 m 85 ls []) := by
          intro q
          induction q with
          | zero =>
            intro v8 g1 t9 u9 k1 k2 k3 k4 H locs ls hq hv8 hg0 hg1 ht9 hu9 hmat p1 p2 p3 p4 hU hl
            refine lv_iload hx hb d_M_power_85 (lv_at hl 6 rfl) ?_
            refine lv_if_lt (tgt := 145) hx hb d_M_power_87 (by decide) (fun c87 => ?_) (fun c87 => ?_)
            · rw [Nat.pow_zero, Nat.div_one] at hmat
              exact E145 g1 t9 u9 k1 k2 k3 k4 _ _ ls hg0 hg1 ht9 hu9 hmat p3 p4 hU (lv_sub hl [0, 1, 2, 3, 4, 5] rfl)
            · exact absurd (Int32.lt_iff_toInt_lt.mpr (by rw [hv8]; decide)) c87
          | succ q ih =>
            intro v8 g1 t9 u9 k1 k2 k3 k4 H locs ls hq hv8 hg0 hg1 ht9 hu9 hmat p1 p2 p3 p4 hU hl
            have hlt := hmat.lt hM0
            have hb1 := Int.emod_lt_of_pos T (show (0 : Int) < (M : Int) by omega)
            have hv8' : v8 = nI q := by apply Int32.toInt_inj.mp; rw [nI_toInt (by omega)]; omega
            have hsq := hmat.sq
            have hE139 : ∀ (g2 : SM) (j1 j2 j3 j4 : Nat) (H : Heap) (locs : List Loc) (ls : Array Slot), g2.1 = 0 → mS g2 d a0 b0 c0 → mat T M (N / 2 ^ q) j1 j2 j3 j4 → g2.2.2.2.2.1 0 = lN j1 → g2.2.2.2.2.1 1 = lN j2 → g2.2.2.2.2.1 2 = lN j3 → g2.2.2.2.2.1 3 = lN j4 → Ms z g2 s.heap H locs s → lv_has ls 12 [(0, .ref (oM z)), (1, .int n9), (2, .int m9), (3, .int w9), (4, .long (lN t9)), (6, .long (lN u9)), (8, .int v8)] → W p l e ({ frames := 4, cells := 0, slots := 0, locals := 102 } : Room) s m ([.ref (oM z), .int n9, .int m9, .int w9] : List Value).toArray below meth c H locs 0 0 (MQ below (va_Qi (fun r g2 => ((0 ≤ n9.toInt ∧ 1 ≤ m9.toInt ∧ (0 ≤ w9.toInt ∧ w9.toInt ≤ 1)) → g2.1 = 0 ∧ mS g2 d a0 b0 c0 ∧ r.toInt = pw ((uW d).1 : Int) ((uW d).2.1 : Int) n9.toInt.toNat w9 % m9.toInt) ∧ (¬ (0 ≤ n9.toInt ∧ 1 ≤ m9.toInt ∧ (0 ≤ w9.toInt ∧ w9.toInt ≤ 1)) → g2 = mC g 1)) (mO z sz) (yA z sz)) ([.ref (oM z), .int n9, .int m9, .int w9] : List Value).toArray s 0 0 (yA z sz)) (F0 m 139 ls []) := by
              intro g2 j1 j2 j3 j4 H locs ls r0 r1 r2 r3 r4 r5 r6 hU hl
              obtain ⟨x139, ex139⟩ : ∃ y : Int32, y = v8 + Int32.ofInt (-1) := ⟨_, rfl⟩
              refine lv_iinc (v := x139) (lv' := [(8, .int x139), (0, .ref (oM z)), (1, .int n9), (2, .int m9), (3, .int w9), (4, .long (lN t9)), (6, .long (lN u9))]) hx hb d_M_power_139 hl (k := 6) rfl (by rw [ex139]) (by decide) rfl (fun ls hl => ?_)
              refine lv_goto (tgt := 85) hx hb d_M_power_142 (by decide) ?_
              exact ih x139 g2 t9 u9 j1 j2 j3 j4 _ _ ls (by omega) (by rw [ex139, Jvm.Kit.i32_add] <;> rw [hv8, show (Int32.ofInt (-1)).toInt = -1 from rfl] <;> omega) r0 r1 ht9 hu9 r2 r3 r4 r5 r6 hU (lv_sub hl [1, 2, 3, 4, 5, 6, 0] rfl)
            refine lv_iload hx hb d_M_power_85 (lv_at hl 6 rfl) ?_
            refine lv_if_lt (tgt := 145) hx hb d_M_power_87 (by decide) (fun c87 => ?_) (fun c87 => ?_)
            · exact absurd (Int32.lt_iff_toInt_lt.mp c87) (by rw [hv8, show (0 : Int32).toInt = 0 from rfl]; omega)
            · refine lv_aload_n hx hb d_M_power_90 rfl (lv_at hl 0 rfl) ?_
              refine lv_aload_n hx hb d_M_power_91 rfl (lv_at hl 0 rfl) ?_
              refine va_get (D := z.1) (ci := 3) (v := .long (g1.2.2.2.2.1 0)) (C := R_M) (T := F_M) (N := 9) hx hb hts in_M hown hU.2.1 hU.1 0 rfl rfl 5 (by decide) (hts _ k_M_103) (fun _ h9 => h9) rfl d_M_power_92 ?_
              refine lv_topl (fun x92 ex92 => ?_)
              refine lv_aload_n hx hb d_M_power_95 rfl (lv_at hl 0 rfl) ?_
              refine va_get (D := z.1) (ci := 3) (v := .long (g1.2.2.2.2.1 1)) (C := R_M) (T := F_M) (N := 9) hx hb hts in_M hown hU.2.1 hU.1 0 rfl rfl 6 (by decide) (hts _ k_M_106) (fun _ h9 => h9) rfl d_M_power_96 ?_
              refine lv_topl (fun x96 ex96 => ?_)
              refine lv_aload_n hx hb d_M_power_99 rfl (lv_at hl 0 rfl) ?_
              refine va_get (D := z.1) (ci := 3) (v := .long (g1.2.2.2.2.1 2)) (C := R_M) (T := F_M) (N := 9) hx hb hts in_M hown hU.2.1 hU.1 0 rfl rfl 7 (by decide) (hts _ k_M_109) (fun _ h9 => h9) rfl d_M_power_100 ?_
              refine lv_topl (fun x100 ex100 => ?_)
              refine lv_aload_n hx hb d_M_power_103 rfl (lv_at hl 0 rfl) ?_
              refine va_get (D := z.1) (ci := 3) (v := .long (g1.2.2.2.2.1 3)) (C := R_M) (T := F_M) (N := 9) hx hb hts in_M hown hU.2.1 hU.1 0 rfl rfl 8 (by decide) (hts _ k_M_112) (fun _ h9 => h9) rfl d_M_power_104 ?_
              refine lv_topl (fun x104 ex104 => ?_)
              refine lv_iload_n hx hb d_M_power_107 rfl (lv_at hl 2 rfl) ?_
              refine lv_i2l hx hb d_M_power_108 rfl ?_
              refine lv_topl (fun x108 ex108 => ?_)
              refine m_callv (m_run (As := [.long x92, .long x96, .long x100, .long x104, .long x108]) (rest := []) hx hb hml hown hts hU (cm_times2 l z _ g1 (ex92.trans p1) (ex96.trans p2) (ex100.trans p3) (ex104.trans p4) (hm9 x108 ex108) hM0 hM hlt.1 hlt.2.1 hlt.2.2.1 hlt.2.2.2 hlt.1 hlt.2.1 hlt.2.2.1 hlt.2.2.2 p1 p2 p3 p4) (w_M_times_cw hts k_M_119 rfl rfl ⟨Nat.le_of_ble_eq_true rfl, Nat.le_of_ble_eq_true rfl⟩) (m_recv hU) rfl hl.1 rfl (lv_room (Nat.le_of_ble_eq_true rfl)) d_M_power_109 ⟨Nat.zero_le _, Nat.zero_le _⟩) hU (fun g109 H locs hp hU => ?_)
              have z0 : g109.1 = 0 := by rw [hp]; exact hg0
              have z1 : mS g109 d a0 b0 c0 := by rw [hp]; exact hg1
              have w0 : g109.2.2.2.2.1 0 = lN ((k1 * k1 + k2 * k3) % M) := by rw [hp]; rfl
              have w1 : g109.2.2.2.2.1 1 = lN ((k1 * k2 + k2 * k4) % M) := by rw [hp]; rfl
              have w2 : g109.2.2.2.2.1 2 = lN ((k3 * k1 + k4 * k3) % M) := by rw [hp]; rfl
              have w3 : g109.2.2.2.2.1 3 = lN ((k3 * k2 + k4 * k4) % M) := by rw [hp]; rfl
              clear hp
              generalize (k1 * k1 + k2 * k3) % M = j1 at hsq w0
              generalize (k1 * k2 + k2 * k4) % M = j2 at hsq w1
              generalize (k3 * k1 + k4 * k3) % M = j3 at hsq w2
              generalize (k3 * k2 + k4 * k4) % M = j4 at hsq w3
              have hlj := hsq.lt hM0
              refine lv_iload_n hx hb d_M_power_112 rfl (lv_at hl 1 rfl) ?_
              refine lv_iload hx hb d_M_power_113 (lv_at hl 6 rfl) ?_
              refine lv_ishr hx hb d_M_power_115 ?_
              refine lv_topi (fun x115 ex115 => ?_)
              refine lv_iconst (v := 1) hx hb d_M_power_116 (by decide) ?_
              refine lv_iand hx hb d_M_power_117 ?_
              refine lv_topi (fun x117 ex117 => ?_)
              refine lv_iconst (v := 1) hx hb d_M_power_118 (by decide) ?_
              have e117 : x117 = nI (N / 2 ^ q % 2) := by rw [ex117, ex115, hn9, hv8']; exact shr_bit hN (by omega)
              have hhb := half_bit (N := N) (q := q)
              refine lv_icmp_ne (tgt := 139) hx hb d_M_power_119 (by decide) (fun c119 => ?_) (fun c119 => ?_)
              · have h119 : N / 2 ^ q % 2 = 0 := by
                  have w : N / 2 ^ q % 2 ≠ 1 := fun w => c119 (by rw [e117, w]; rfl)
                  omega
                rw [show 2 * (N / 2 ^ (q + 1)) = N / 2 ^ q by omega] at hsq
                exact hE139 g109 j1 j2 j3 j4 _ _ ls z0 z1 hsq w0 w1 w2 w3 hU hl
              · have h119 : N / 2 ^ q % 2 = 1 := by
                  have w : N / 2 ^ q % 2 ≠ 0 := fun w => absurd (show x117 = (1 : Int32) from c119) (by rw [e117, w]; decide)
                  omega
                refine lv_aload_n hx hb d_M_power_122 rfl (lv_at hl 0 rfl) ?_
                refine lv_lload hx hb d_M_power_123 (lv_at hl 4 rfl) ?_
                refine lv_iload_n hx hb d_M_power_125 rfl (lv_at hl 2 rfl) ?_
                refine lv_i2l hx hb d_M_power_126 rfl ?_
                refine lv_topl (fun x126 ex126 => ?_)
                refine lv_lconst (v := 1) hx hb d_M_power_127 (by decide) ?_
                refine lv_lsub hx hb d_M_power_128 ?_
                refine lv_topl (fun x128 ex128 => ?_)
                refine lv_lconst (v := 1) hx hb d_M_power_129 (by decide) ?_
                refine lv_iload_n hx hb d_M_power_130 rfl (lv_at hl 2 rfl) ?_
                refine lv_i2l hx hb d_M_power_131 rfl ?_
                refine lv_topl (fun x131 ex131 => ?_)
                have f131 := hm9 x131 ex131
                have hne132 := hne x131 f131
                refine lv_lrem hx hb d_M_power_132 hne132 ?_
                refine lv_topl (fun x132 ex132 => ?_)
                refine lv_lconst (v := 0) hx hb d_M_power_133 (by decide) ?_
                refine lv_iload_n hx hb d_M_power_134 rfl (lv_at hl 2 rfl) ?_
                refine lv_i2l hx hb d_M_power_135 rfl ?_
                refine lv_topl (fun x135 ex135 => ?_)
                have e128 : x128 = lN (M - 1) := by
                  rw [ex128, hm9 x126 ex126]
                  apply Int64.toInt_inj.mp
                  rw [pk_lT (by omega), Jvm.Kit.i64_sub] <;> rw [pk_lT (by omega), show (1 : Int64).toInt = 1 from rfl] <;> omega
                have e132 : x132 = lN (1 % M) := by
                  rw [ex132, f131, show (1 : Int64) = lN 1 from rfl]
                  exact pk_lRem (by decide) hM0 (by omega)
                have hst := hsq.st hM0 ht9 (p := M - 1) rfl (n := 1 % M) rfl (o := 0) rfl
                refine m_callv (m_run (As := [.long (lN t9), .long x128, .long x132, .long 0, .long x135]) (rest := []) hx hb hml hown hts hU (cm_times2 l z _ g109 (a := t9) rfl e128 e132 (e9 := 0) rfl (hm9 x135 ex135) hM0 hM (by omega) (by omega) (Nat.mod_lt _ hM0) hM0 hlj.1 hlj.2.1 hlj.2.2.1 hlj.2.2.2 w0 w1 w2 w3) (w_M_times_cw hts k_M_119 rfl rfl ⟨Nat.le_of_ble_eq_true rfl, Nat.le_of_ble_eq_true rfl⟩) (m_recv hU) rfl hl.1 rfl (lv_room (Nat.le_of_ble_eq_true rfl)) d_M_power_136 ⟨Nat.zero_le _, Nat.zero_le _⟩) hU (fun g136 H locs hp hU => ?_)
                rw [show 2 * (N / 2 ^ (q + 1)) + 1 = N / 2 ^ q by omega] at hst
                exact hE139 g136 _ _ _ _ _ _ ls (by rw [hp]; exact z0) (by rw [hp]; exact z1) hst (by rw [hp]; rfl) (by rw [hp]; rfl) (by rw [hp]; rfl) (by rw [hp]; rfl) hU hl
        refine lv_iconst (v := 0) hx hb d_M_power_24 (by decide) ?_
        refine mp_C hx hb hts hown hU (hts _ k_M_23) d_M_power_25 (fun H locs hU => ?_)
        generalize eg25 : mC g 0 = g25 at hU
        refine lv_aload_n hx hb d_M_power_28 rfl (lv_at hl 0 rfl) ?_
        refine va_get (D := z.1) (ci := 3) (v := .int g25.1) (C := R_M) (T := F_M) (N := 9) hx hb hts in_M hown hU.2.1 hU.1 0 rfl rfl 0 (by decide) (hts _ k_M_23) (fun _ h9 => h9) rfl d_M_power_29 ?_
        refine lv_topi (fun x29 ex29 => ?_)
        have e29 : x29 = 0 := by rw [ex29, ← eg25]; rfl
        have y1 : mS g25 d a0 b0 c0 := by rw [← eg25]; exact hS.code
        have y0 : g25.1 = 0 := by rw [← eg25]; rfl
        refine lv_if_le (tgt := 37) hx hb d_M_power_32 (by decide) (fun c32 => ?_) (fun c32 => ?_)
        · refine lv_aload_n hx hb d_M_power_37 rfl (lv_at hl 0 rfl) ?_
          refine lv_iconst (v := 0) hx hb d_M_power_38 (by decide) ?_
          refine lv_iload_n hx hb d_M_power_39 rfl (lv_at hl 2 rfl) ?_
          refine lv_i2l hx hb d_M_power_40 rfl ?_
          refine lv_topl (fun x40 ex40 => ?_)
          refine m_calll (m_run (As := [.int 0, .long x40]) (rest := []) hx hb hml hown hts hU (cm_left2 l z _ g25 (i := 0) rfl (by decide) y1.2.2.2.1 (M := M) (hm9 x40 ex40) hM0 hM) (w_M_left_cw hts k_M_115 rfl rfl ⟨Nat.le_of_ble_eq_true rfl, Nat.le_of_ble_eq_true rfl⟩) (m_recv hU) rfl hl.1 rfl (lv_room (Nat.le_of_ble_eq_true rfl)) d_M_power_41 ⟨Nat.zero_le _, Nat.zero_le _⟩) hU (fun r41 g41 H locs hp hU => ?_)
          obtain ⟨f, k1, k2, k3, k4⟩ := hp
          have y2 : mS g41 d a0 b0 c0 := by rw [k1]; exact y1.keep k2 k3
          have y3 : g41.1 = 0 := by rw [k1]; exact y0
          rw [(hS1 g25 y1).1] at k4
          obtain ⟨t9, et9⟩ : ∃ t9 : Nat, (t9 : Int) = T % M := ⟨(T % M).toNat, Int.toNat_of_nonneg (Int.emod_nonneg _ (by omega))⟩
          have hb1 := Int.emod_lt_of_pos T (show (0 : Int) < (M : Int) by omega)
          have e41 : r41 = lN t9 := by apply Int64.toInt_inj.mp; rw [k4, pk_lT (by omega)]; exact et9.symm
          refine lv_lstore (lv' := [(4, .long r41), (0, .ref (oM z)), (1, .int n9), (2, .int m9), (3, .int w9)]) hx hb d_M_power_44 hl (by decide) rfl (fun ls hl => ?_)
          refine lv_aload_n hx hb d_M_power_46 rfl (lv_at hl 1 rfl) ?_
          refine lv_iconst (v := 1) hx hb d_M_power_47 (by decide) ?_
          refine lv_iload_n hx hb d_M_power_48 rfl (lv_at hl 3 rfl) ?_
          refine lv_i2l hx hb d_M_power_49 rfl ?_
          refine lv_topl (fun x49 ex49 => ?_)
          refine m_calll (m_run (As := [.int 1, .long x49]) (rest := []) hx hb hml hown hts hU (cm_left2 l z _ g41 (i := 1) rfl (by decide) y2.2.2.2.1 (M := M) (hm9 x49 ex49) hM0 hM) (w_M_left_cw hts k_M_115 rfl rfl ⟨Nat.le_of_ble_eq_true rfl, Nat.le_of_ble_eq_true rfl⟩) (m_recv hU) rfl hl.1 rfl (lv_room (Nat.le_of_ble_eq_true rfl)) d_M_power_50 ⟨Nat.zero_le _, Nat.zero_le _⟩) hU (fun r50 g50 H locs hp hU => ?_)
          obtain ⟨f2, k5, k6, k7, k8⟩ := hp
          have y4 : mS g50 d a0 b0 c0 := by rw [k5]; exact y2.keep k6 k7
          have y5 : g50.1 = 0 := by rw [k5]; exact y3
          rw [(hS1 g41 y2).2.1] at k8
          obtain ⟨u9, eu9⟩ : ∃ u9 : Nat, (u9 : Int) = U % M := ⟨(U % M).toNat, Int.toNat_of_nonneg (Int.emod_nonneg _ (by omega))⟩
          have hb2 := Int.emod_lt_of_pos U (show (0 : Int) < (M : Int) by omega)
          have e50 : r50 = lN u9 := by apply Int64.toInt_inj.mp; rw [k8, pk_lT (by omega)]; exact eu9.symm
          refine lv_lstore (lv' := [(6, .long r50), (4, .long r41), (0, .ref (oM z)), (1, .int n9), (2, .int m9), (3, .int w9)]) hx hb d_M_power_53 hl (by decide) rfl (fun ls hl => ?_)
          refine lv_aload_n hx hb d_M_power_55 rfl (lv_at hl 2 rfl) ?_
          refine lv_lconst (v := 1) hx hb d_M_power_56 (by decide) ?_
          refine lv_iload_n hx hb d_M_power_57 rfl (lv_at hl 4 rfl) ?_
          refine lv_i2l hx hb d_M_power_58 rfl ?_
          refine lv_topl (fun x58 ex58 => ?_)
          have f58 := hm9 x58 ex58
          have hne59 := hne x58 f58
          refine lv_lrem hx hb d_M_power_59 hne59 ?_
          refine lv_topl (fun x59 ex59 => ?_)
          refine mp_X0 hx hb hts hown hU (hts _ k_M_103) d_M_power_60 (fun H locs hU => ?_)
          generalize eg60 : mX g50 0 x59 = g60 at hU
          refine lv_aload_n hx hb d_M_power_63 rfl (lv_at hl 2 rfl) ?_
          refine lv_lconst (v := 0) hx hb d_M_power_64 (by decide) ?_
          refine mp_X1 hx hb hts hown hU (hts _ k_M_106) d_M_power_65 (fun H locs hU => ?_)
          generalize eg65 : mX g60 1 0 = g65 at hU
          refine lv_aload_n hx hb d_M_power_68 rfl (lv_at hl 2 rfl) ?_
          refine lv_lconst (v := 0) hx hb d_M_power_69 (by decide) ?_
          refine mp_X2 hx hb hts hown hU (hts _ k_M_109) d_M_power_70 (fun H locs hU => ?_)
          generalize eg70 : mX g65 2 0 = g70 at hU
          refine lv_aload_n hx hb d_M_power_73 rfl (lv_at hl 2 rfl) ?_
          refine lv_lconst (v := 1) hx hb d_M_power_74 (by decide) ?_
          refine lv_iload_n hx hb d_M_power_75 rfl (lv_at hl 4 rfl) ?_
          refine lv_i2l hx hb d_M_power_76 rfl ?_
          refine lv_topl (fun x76 ex76 => ?_)
          have f76 := hm9 x76 ex76
          have hne77 := hne x76 f76
          refine lv_lrem hx hb d_M_power_77 hne77 ?_
          refine lv_topl (fun x77 ex77 => ?_)
          refine mp_X3 hx hb hts hown hU (hts _ k_M_112) d_M_power_78 (fun H locs hU => ?_)
          generalize eg78 : mX g70 3 x77 = g78 at hU
          refine lv_bipush (v := 30) hx hb d_M_power_81 (by decide) ?_
          refine lv_istore (lv' := [(8, .int 30), (6, .long r50), (4, .long r41), (0, .ref (oM z)), (1, .int n9), (2, .int m9), (3, .int w9)]) hx hb d_M_power_83 hl (by decide) rfl (fun ls hl => ?_)
          have e59 : x59 = lN (1 % M) := by
            rw [ex59, f58, show (1 : Int64) = lN 1 from rfl]
            exact pk_lRem (by decide) hM0 (by omega)
          have e77 : x77 = lN (1 % M) := by
            rw [ex77, f76, show (1 : Int64) = lN 1 from rfl]
            exact pk_lRem (by decide) hM0 (by omega)
          have v1 : mS g78 d a0 b0 c0 := by rw [← eg78, ← eg70, ← eg65, ← eg60]; exact y4
          have v0 : g78.1 = 0 := by rw [← eg78, ← eg70, ← eg65, ← eg60]; exact y5
          have hm0 := mat.one T M
          rw [show (0 : Nat) = N / 2 ^ 31 from (Nat.div_eq_of_lt hN).symm] at hm0
          have hl : lv_has ls 12 [(0, .ref (oM z)), (1, .int n9), (2, .int m9), (3, .int w9), (4, .long (lN t9)), (6, .long (lN u9)), (8, .int 30)] := by rw [← e41, ← e50]; exact (lv_sub hl [3, 4, 5, 6, 2, 1, 0] rfl)
          exact K 31 30 g78 t9 u9 _ _ _ _ _ _ ls (Nat.le_refl _) rfl v0 v1 et9 eu9 hm0 (by rw [← eg78, ← eg70, ← eg65, ← eg60, ← e59]; rfl) (by rw [← eg78, ← eg70, ← eg65, (Nat.div_eq_of_lt hN)]; rfl) (by rw [← eg78, ← eg70, (Nat.div_eq_of_lt hN)]; rfl) (by rw [← eg78, ← e77]; rfl) hU hl
        · exact absurd (by rw [e29]; decide) c32
      · have h14 : ¬ (0 ≤ w9.toInt ∧ w9.toInt ≤ 1) := fun q => by rw [ex14, if_pos q] at c17; exact absurd c17 (by decide)
        refine lv_iconst (v := 1) hx hb d_M_power_20 (by decide) ?_
        refine lv_goto (tgt := 25) hx hb d_M_power_21 (by decide) ?_
        exact E25 _ _ ls (fun q => absurd q.2.2 h14) hU hl
