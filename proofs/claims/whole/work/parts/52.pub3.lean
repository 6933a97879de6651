set_option maxHeartbeats 4000000 in
set_option maxRecDepth 100000 in
theorem c_wordAt2 (l : Launch) (z : ZZ) (sz : Nat) (g : St) {i : Nat} (hi : i < 10) {n : Nat} (hn : n ≤ 512) (hn1 : (g.2.2.2 i).1 = nI n) {K : Nat} (hK : K < 2 ^ 31) {k9 : Int32} (h9 : k9 = nI K) : Met l y_B_wordAt (zw y_B_wordAt b_B_wordAt 2 (some .int)) { frames := 0, cells := 0, slots := 0, locals := 0 } (va_Pc [.ref (oA z i), .int k9] (zI z g sz)) (va_Qi (fun r g2 => g2 = g ∧ r = wd (g.2.2.2 i).2.2 n K) (zO z sz) (zA z sz)) 0 0 (zA z sz) := by
  subst h9
  exact c_wordAt l z sz g hi hn hn1 hK
set_option maxHeartbeats 4000000 in
set_option maxRecDepth 100000 in
theorem c_modulo2 (l : Launch) (z : ZZ) (sz : Nat) (g : St) {i : Nat} (hi : i < 10) (hok : bOk (g.2.2.2 i)) {M : Nat} (hM0 : 0 < M) (hM : M < 2 ^ 31) {m9 : Int32} (h9 : m9 = nI M) : Met l y_B_modulo (zw y_B_modulo b_B_modulo 5 (some .long)) { frames := 0, cells := 0, slots := 0, locals := 0 } (va_Pc [.ref (oA z i), .int m9] (zI z g sz)) (va_Ql (fun r g2 => g2 = g ∧ r.toInt = bz (g.2.2.2 i) % (M : Int)) (zO z sz) (zA z sz)) 0 0 (zA z sz) := by
  subst h9
  exact c_modulo l z sz g hi hok hM0 hM
set_option maxHeartbeats 4000000 in
set_option maxRecDepth 100000 in
theorem c_sign (l : Launch) (z : ZZ) (sz : Nat) (g : St) {i : Nat} (hi : i < 8) (hok : bOk (g.2.2.2 i)) {x : Int32} (hxi : x = nI i) : Met l y_U_sign (zw y_U_sign b_U_sign 2 (some .int)) { frames := 8, cells := 0, slots := 0, locals := 151 } (va_Pc [.ref (mA z), .int x] (zI z g sz)) (va_Qi (fun r g2 => g2 = g ∧ r = bsg (g.2.2.2 i)) (zO z sz) (zA z sz)) 0 0 (zA z sz) := by
  refine z_ofW (by decide) (Nat.le_of_ble_eq_true rfl) (fun p e s m below meth c hx hb hr hml hown hts hlocks hname hsz hN ls hU hl => ?_)
  have hl : lv_has ls 2 [(0, .ref (mA z)), (1, .int x)] := hl
  refine lv_aload_n hx hb d_U_sign_0 rfl (lv_at hl 0 rfl) ?_
  refine lv_iload_n hx hb d_U_sign_1 rfl (lv_at hl 1 rfl) ?_
  refine z_callr (z_run (As := [.int x]) (rest := []) hx hb hml hown hts hU hN (c_numberAt l z _ g hi hxi) (w_U_numberAt_cw hts k_U_109 rfl rfl ⟨Nat.le_of_ble_eq_true rfl, Nat.le_of_ble_eq_true rfl⟩) (z_recvM hU) rfl hl.1 rfl (lv_room (Nat.le_of_ble_eq_true rfl)) d_U_sign_2 ⟨Nat.zero_le _, Nat.zero_le _⟩) hU (fun g2 H locs hp hU => ?_)
  rw [hp] at hU
  refine z_calli (z_run (As := []) (rest := []) hx hb hml hown hts hU hN (c_signum l z _ g (i := i) (by omega) hok) (w_B_signum_cw hts k_U_70 rfl rfl ⟨Nat.le_of_ble_eq_true rfl, Nat.le_of_ble_eq_true rfl⟩) (z_recvB hU (by omega)) rfl hl.1 rfl (lv_room (Nat.le_of_ble_eq_true rfl)) d_U_sign_5 ⟨Nat.zero_le _, Nat.zero_le _⟩) hU (fun r5 g5 H locs hp hU => ?_)
  obtain ⟨q1, q2⟩ := hp
  rw [q1] at hU
  exact z_iret hx hb hr hlocks hsz hU ⟨rfl, q2⟩ d_U_sign_8
set_option maxHeartbeats 4000000 in
set_option maxRecDepth 100000 in
theorem c_bits (l : Launch) (z : ZZ) (sz : Nat) (g : St) {i : Nat} (hi : i < 8) (hok : bOk (g.2.2.2 i)) {x : Int32} (hxi : x = nI i) : Met l y_U_bits (zw y_U_bits b_U_bits 2 (some .int)) { frames := 8, cells := 0, slots := 0, locals := 151 } (va_Pc [.ref (mA z), .int x] (zI z g sz)) (va_Qi (fun r g2 => g2 = g ∧ r = nI (bl (bv (g.2.2.2 i)))) (zO z sz) (zA z sz)) 0 0 (zA z sz) := by
  refine z_ofW (by decide) (Nat.le_of_ble_eq_true rfl) (fun p e s m below meth c hx hb hr hml hown hts hlocks hname hsz hN ls hU hl => ?_)
  have hl : lv_has ls 2 [(0, .ref (mA z)), (1, .int x)] := hl
  refine lv_aload_n hx hb d_U_bits_0 rfl (lv_at hl 0 rfl) ?_
  refine lv_iload_n hx hb d_U_bits_1 rfl (lv_at hl 1 rfl) ?_
  refine z_callr (z_run (As := [.int x]) (rest := []) hx hb hml hown hts hU hN (c_numberAt l z _ g hi hxi) (w_U_numberAt_cw hts k_U_109 rfl rfl ⟨Nat.le_of_ble_eq_true rfl, Nat.le_of_ble_eq_true rfl⟩) (z_recvM hU) rfl hl.1 rfl (lv_room (Nat.le_of_ble_eq_true rfl)) d_U_bits_2 ⟨Nat.zero_le _, Nat.zero_le _⟩) hU (fun g2 H locs hp hU => ?_)
  rw [hp] at hU
  refine z_calli (z_run (As := []) (rest := []) hx hb hml hown hts hU hN (c_countBits l z _ g (i := i) (by omega) hok) (w_B_countBits_cw hts k_U_59 rfl rfl ⟨Nat.le_of_ble_eq_true rfl, Nat.le_of_ble_eq_true rfl⟩) (z_recvB hU (by omega)) rfl hl.1 rfl (lv_room (Nat.le_of_ble_eq_true rfl)) d_U_bits_5 ⟨Nat.zero_le _, Nat.zero_le _⟩) hU (fun r5 g5 H locs hp hU => ?_)
  obtain ⟨q1, q2⟩ := hp
  rw [q1] at hU
  exact z_iret hx hb hr hlocks hsz hU ⟨rfl, q2⟩ d_U_bits_8
set_option maxHeartbeats 4000000 in
set_option maxRecDepth 100000 in
theorem c_word (l : Launch) (z : ZZ) (sz : Nat) (g : St) {i : Nat} (hi : i < 8) (hok : bOk (g.2.2.2 i)) {x k9 : Int32} (hxi : x = nI i) {K : Nat} (hK : K ≤ 511) (hk9 : k9 = nI K) : Met l y_U_word (zw y_U_word b_U_word 4 (some .int)) { frames := 8, cells := 0, slots := 0, locals := 151 } (va_Pc [.ref (mA z), .int x, .int k9] (zI z g sz)) (va_Qi (fun r g2 => g2 = g ∧ wn r = bv (g.2.2.2 i) / 4294967296 ^ K % 4294967296) (zO z sz) (zA z sz)) 0 0 (zA z sz) := by
  refine z_ofW (by decide) (Nat.le_of_ble_eq_true rfl) (fun p e s m below meth c hx hb hr hml hown hts hlocks hname hsz hN ls hU hl => ?_)
  have hl : lv_has ls 4 [(0, .ref (mA z)), (1, .int x), (2, .int k9)] := hl
  obtain ⟨n, hn, hn1, hbel, htop⟩ := hok
  have hbv : bv (g.2.2.2 i) = vl (g.2.2.2 i).2.2 n := bv_of hn hn1
  have hki : k9.toInt = (K : Int) := by rw [hk9, nI_toInt (by omega)]
  refine lv_aload_n hx hb d_U_word_0 rfl (lv_at hl 0 rfl) ?_
  refine lv_iload_n hx hb d_U_word_1 rfl (lv_at hl 1 rfl) ?_
  refine z_callr (z_run (As := [.int x]) (rest := []) hx hb hml hown hts hU hN (c_numberAt l z _ g hi hxi) (w_U_numberAt_cw hts k_U_109 rfl rfl ⟨Nat.le_of_ble_eq_true rfl, Nat.le_of_ble_eq_true rfl⟩) (z_recvM hU) rfl hl.1 rfl (lv_room (Nat.le_of_ble_eq_true rfl)) d_U_word_2 ⟨Nat.zero_le _, Nat.zero_le _⟩) hU (fun g2 H locs hp hU => ?_)
  rw [hp] at hU
  refine lv_astore_n (lv' := [(3, .ref (oA z i)), (0, .ref (mA z)), (1, .int x), (2, .int k9)]) hx hb d_U_word_5 rfl hl (by decide) rfl (fun ls hl => ?_)
  refine lv_iload_n hx hb d_U_word_6 rfl (lv_at hl 3 rfl) ?_
  refine lv_if_lt (tgt := 17) hx hb d_U_word_7 (by decide) (fun c7 => ?_) (fun c7 => ?_)
  · exact absurd (Int32.lt_iff_toInt_lt.mp c7) (by rw [hki, show (0 : Int32).toInt = 0 from rfl]; omega)
  · refine lv_iload_n hx hb d_U_word_10 rfl (lv_at hl 3 rfl) ?_
    refine lv_sipush (v := 512) hx hb d_U_word_11 (by decide) ?_
    refine lv_icmp_lt (tgt := 27) hx hb d_U_word_14 (by decide) (fun c14 => ?_) (fun c14 => ?_)
    · refine lv_aload_n hx hb d_U_word_27 rfl (lv_at hl 0 rfl) ?_
      refine lv_iload_n hx hb d_U_word_28 rfl (lv_at hl 3 rfl) ?_
      refine z_calli (z_run (As := [.int k9]) (rest := []) hx hb hml hown hts hU hN (c_wordAt2 l z _ g (i := i) (by omega) hn hn1 (K := K) (by omega) hk9) (w_B_wordAt_cw hts k_U_118 rfl rfl ⟨Nat.le_of_ble_eq_true rfl, Nat.le_of_ble_eq_true rfl⟩) (z_recvB hU (by omega)) rfl hl.1 rfl (lv_room (Nat.le_of_ble_eq_true rfl)) d_U_word_29 ⟨Nat.zero_le _, Nat.zero_le _⟩) hU (fun r29 g29 H locs hp hU => ?_)
      obtain ⟨q1, q2⟩ := hp
      rw [q1] at hU
      have hw : wn r29 = bv (g.2.2.2 i) / 4294967296 ^ K % 4294967296 := by
        rw [q2, hbv]
        rcases Nat.lt_or_ge K n with h | h
        · rw [wd_lt h, vl_word _ K n h]
        · rw [wd_ge h, vl_hi h]; rfl
      exact z_iret hx hb hr hlocks hsz hU ⟨rfl, hw⟩ d_U_word_32
    · exact absurd (Int32.lt_iff_toInt_lt.mpr (by rw [hki, show (512 : Int32).toInt = 512 from rfl]; omega)) c14
set_option maxHeartbeats 4000000 in
set_option maxRecDepth 100000 in
theorem c_residue (l : Launch) (z : ZZ) (sz : Nat) (g : St) {i : Nat} (hi : i < 8) (hok : bOk (g.2.2.2 i)) {x m9 : Int32} (hxi : x = nI i) {M : Nat} (hM0 : 0 < M) (hM : M < 2 ^ 31) (hm9 : m9 = nI M) : Met l y_U_residue (zw y_U_residue b_U_residue 4 (some .int)) { frames := 8, cells := 0, slots := 0, locals := 151 } (va_Pc [.ref (mA z), .int x, .int m9] (zI z g sz)) (va_Qi (fun r g2 => g2 = g ∧ r.toInt = bz (g.2.2.2 i) % (M : Int)) (zO z sz) (zA z sz)) 0 0 (zA z sz) := by
  refine z_ofW (by decide) (Nat.le_of_ble_eq_true rfl) (fun p e s m below meth c hx hb hr hml hown hts hlocks hname hsz hN ls hU hl => ?_)
  have hl : lv_has ls 4 [(0, .ref (mA z)), (1, .int x), (2, .int m9)] := hl
  have hmi : m9.toInt = (M : Int) := by rw [hm9, nI_toInt (by omega)]
  refine lv_aload_n hx hb d_U_residue_0 rfl (lv_at hl 0 rfl) ?_
  refine lv_iload_n hx hb d_U_residue_1 rfl (lv_at hl 1 rfl) ?_
  refine z_callr (z_run (As := [.int x]) (rest := []) hx hb hml hown hts hU hN (c_numberAt l z _ g hi hxi) (w_U_numberAt_cw hts k_U_109 rfl rfl ⟨Nat.le_of_ble_eq_true rfl, Nat.le_of_ble_eq_true rfl⟩) (z_recvM hU) rfl hl.1 rfl (lv_room (Nat.le_of_ble_eq_true rfl)) d_U_residue_2 ⟨Nat.zero_le _, Nat.zero_le _⟩) hU (fun g2 H locs hp hU => ?_)
  rw [hp] at hU
  refine lv_astore_n (lv' := [(3, .ref (oA z i)), (0, .ref (mA z)), (1, .int x), (2, .int m9)]) hx hb d_U_residue_5 rfl hl (by decide) rfl (fun ls hl => ?_)
  refine lv_iload_n hx hb d_U_residue_6 rfl (lv_at hl 3 rfl) ?_
  refine lv_iconst (v := 1) hx hb d_U_residue_7 (by decide) ?_
  refine lv_icmp_ge (tgt := 21) hx hb d_U_residue_8 (by decide) (fun c8 => ?_) (fun c8 => ?_)
  · refine lv_aload_n hx hb d_U_residue_21 rfl (lv_at hl 0 rfl) ?_
    refine lv_iload_n hx hb d_U_residue_22 rfl (lv_at hl 3 rfl) ?_
    refine z_calll (z_run (As := [.int m9]) (rest := []) hx hb hml hown hts hU hN (c_modulo2 l z _ g (i := i) (by omega) hok hM0 hM hm9) (w_B_modulo_cw hts k_U_97 rfl rfl ⟨Nat.le_of_ble_eq_true rfl, Nat.le_of_ble_eq_true rfl⟩) (z_recvB hU (by omega)) rfl hl.1 rfl (lv_room (Nat.le_of_ble_eq_true rfl)) d_U_residue_23 ⟨Nat.zero_le _, Nat.zero_le _⟩) hU (fun r23 g23 H locs hp hU => ?_)
    obtain ⟨q1, q2⟩ := hp
    rw [q1] at hU
    refine lv_l2i hx hb d_U_residue_26 rfl ?_
    refine lv_topi (fun x26 ex26 => ?_)
    have t26 : x26.toInt = bz (g.2.2.2 i) % (M : Int) := by
      have b1 := Int.emod_nonneg (bz (g.2.2.2 i)) (show (M : Int) ≠ 0 by omega)
      have b2 := Int.emod_lt_of_pos (bz (g.2.2.2 i)) (show (0 : Int) < (M : Int) by omega)
      rw [ex26]
      rw [← q2] at b1 b2 ⊢
      exact Jvm.Kit.i32_of_i64 (by omega) (by omega)
    exact z_iret hx hb hr hlocks hsz hU ⟨rfl, t26⟩ d_U_residue_27
  · exact absurd (Int32.le_iff_toInt_le.mpr (by rw [hmi, show (1 : Int32).toInt = 1 from rfl]; omega)) c8
set_option maxHeartbeats 4000000 in
set_option maxRecDepth 100000 in
theorem c_take (l : Launch) (z : ZZ) (sz : Nat) (g : St) {d : Int32} (hd : tk d.toInt) : Met l y_U_take (zw y_U_take b_U_take 2 (some .int)) { frames := 7, cells := 0, slots := 0, locals := 151 } (va_Pc [.ref (mA z), .int d] (zI z g sz)) (va_Qi (fun r g2 => cS g2 d.toInt 1 (d.toInt % 2) ((d.toInt % 2 - d.toInt) / 4) ∧ r = nI (bl (uO d.toInt).1)) (zO z sz) (zA z sz)) 0 0 (zA z sz) := by
  refine z_ofW (by decide) (Nat.le_of_ble_eq_true rfl) (fun p e s m below meth c hx hb hr hml hown hts hlocks hname hsz hN ls hU hl => ?_)
  have hl : lv_has ls 2 [(0, .ref (mA z)), (1, .int d)] := hl
  refine lv_iload_n hx hb d_U_take_0 rfl (lv_at hl 1 rfl) ?_
  refine pr_call (As := [.int d]) (rest := []) hx hb hml hown hts (c_canBeTaken l d) (w_U_canBeTaken_cw hts k_U_48 rfl rfl ⟨Nat.le_of_ble_eq_true rfl, Nat.le_of_ble_eq_true rfl⟩) rfl hl.1 rfl (lv_room (Nat.le_of_ble_eq_true rfl)) d_U_take_1 ⟨Nat.zero_le _, Nat.zero_le _⟩ ?_
  refine lv_topi (fun x1 ex1 => ?_)
  refine lv_if_ne (tgt := 17) hx hb d_U_take_4 (by decide) (fun c4 => ?_) (fun c4 => ?_)
  · refine lv_aload_n hx hb d_U_take_17 rfl (lv_at hl 0 rfl) ?_
    refine lv_iload_n hx hb d_U_take_18 rfl (lv_at hl 1 rfl) ?_
    refine z_callv (z_run (As := [.int d]) (rest := []) hx hb hml hown hts hU hN (c_become l z _ g hd) (w_U_become_cw hts k_U_44 rfl rfl ⟨Nat.le_of_ble_eq_true rfl, Nat.le_of_ble_eq_true rfl⟩) (z_recvM hU) rfl hl.1 rfl (lv_room (Nat.le_of_ble_eq_true rfl)) d_U_take_19 ⟨Nat.zero_le _, Nat.zero_le _⟩) hU (fun g19 H locs hp hU => ?_)
    refine lv_aload_n hx hb d_U_take_22 rfl (lv_at hl 0 rfl) ?_
    refine va_get (D := z.1) (ci := 0) (v := .ref (oA z 0)) (C := R_U) (T := F_U) (N := 11) hx hb hts in_U hown hU.2.1 hU.1 0 rfl rfl 0 (by decide) (hts _ k_U_10) (fun _ h9 => h9) rfl d_U_take_23 ?_
    obtain ⟨⟨k0, k1, k2⟩, -⟩ := hp.2.2.1
    refine z_calli (z_run (As := []) (rest := []) hx hb hml hown hts hU hN (c_countBits l z _ g19 (i := 0) (by omega) k0) (w_B_countBits_cw hts k_U_59 rfl rfl ⟨Nat.le_of_ble_eq_true rfl, Nat.le_of_ble_eq_true rfl⟩) (z_recvB hU (by omega)) rfl hl.1 rfl (lv_room (Nat.le_of_ble_eq_true rfl)) d_U_take_26 ⟨Nat.zero_le _, Nat.zero_le _⟩) hU (fun r26 g26 H locs hq hU => ?_)
    obtain ⟨q1, q2⟩ := hq
    rw [q1] at hU
    exact z_iret hx hb hr hlocks hsz hU ⟨hp, by rw [q2, k2]⟩ d_U_take_29
  · exact absurd (show x1 = 0 from c4) (by rw [ex1, tkI_1 hd]; decide)
set_option maxHeartbeats 4000000 in
set_option maxRecDepth 100000 in
theorem c_ask (l : Launch) (z : ZZ) (sz : Nat) (g : St) {a b c9 : Int32} {d a0 b0 c0 : Int} (hS : cS g d a0 b0 c0) (hk : akOk d a.toInt b.toInt c9.toInt) : Met l y_U_ask (zw y_U_ask b_U_ask 4 none) { frames := 7, cells := 0, slots := 0, locals := 130 } (va_Pc [.ref (mA z), .int a, .int b, .int c9] (zI z g sz)) (va_Qv (fun g2 => cS g2 d a.toInt b.toInt c9.toInt) (zO z sz) (zA z sz)) 0 0 (zA z sz) := by
  refine z_ofW (by decide) (Nat.le_of_ble_eq_true rfl) (fun p e s m below meth c hx hb hr hml hown hts hlocks hname hsz hN ls hU hl => ?_)
  have hl : lv_has ls 4 [(0, .ref (mA z)), (1, .int a), (2, .int b), (3, .int c9)] := hl
  obtain ⟨⟨z1, z2, z3⟩, hdd, hgcd⟩ := hk
  obtain ⟨A, eA⟩ : ∃ A, A = a.toInt := ⟨_, rfl⟩
  obtain ⟨B, eB⟩ : ∃ B, B = b.toInt := ⟨_, rfl⟩
  obtain ⟨C, eC⟩ : ∃ C, C = c9.toInt := ⟨_, rfl⟩
  have tA : ∀ x : Int64, x = a.toInt64 → x.toInt = A := fun x hx => by rw [hx, eA]; exact Jvm.Kit.i64_of_i32 a
  have tB9 : ∀ x : Int64, x = b.toInt64 → x.toInt = B := fun x hx => by rw [hx, eB]; exact Jvm.Kit.i64_of_i32 b
  have tC : ∀ x : Int64, x = c9.toInt64 → x.toInt = C := fun x hx => by rw [hx, eC]; exact Jvm.Kit.i64_of_i32 c9
  have m1 := mb30 z2 z2
  have m2 := mb30 z1 z3
  have m3 := z1
  rw [← eB] at m1
  rw [← eA, ← eC] at m2
  rw [← eA] at m3
  rw [← eA, ← eB, ← eC] at hdd
  have hac : 4 * A * C = 4 * (A * C) := Int.mul_assoc 4 A C
  refine lv_iload_n hx hb d_U_ask_0 rfl (lv_at hl 1 rfl) ?_
  refine pr_call (As := [.int a]) (rest := []) hx hb hml hown hts (c_isCoefficient l a) (w_U_isCoefficient_cw hts k_U_76 rfl rfl ⟨Nat.le_of_ble_eq_true rfl, Nat.le_of_ble_eq_true rfl⟩) rfl hl.1 rfl (lv_room (Nat.le_of_ble_eq_true rfl)) d_U_ask_1 ⟨Nat.zero_le _, Nat.zero_le _⟩ ?_
  refine lv_topi (fun x1 ex1 => ?_)
  refine lv_if_eq (tgt := 21) hx hb d_U_ask_4 (by decide) (fun c4 => ?_) (fun c4 => ?_)
  · exact absurd (show x1 = 0 from c4) (by rw [ex1, if_pos z1]; decide)
  · refine lv_iload_n hx hb d_U_ask_7 rfl (lv_at hl 2 rfl) ?_
    refine pr_call (As := [.int b]) (rest := []) hx hb hml hown hts (c_isCoefficient l b) (w_U_isCoefficient_cw hts k_U_76 rfl rfl ⟨Nat.le_of_ble_eq_true rfl, Nat.le_of_ble_eq_true rfl⟩) rfl hl.1 rfl (lv_room (Nat.le_of_ble_eq_true rfl)) d_U_ask_8 ⟨Nat.zero_le _, Nat.zero_le _⟩ ?_
    refine lv_topi (fun x8 ex8 => ?_)
    refine lv_if_eq (tgt := 21) hx hb d_U_ask_11 (by decide) (fun c11 => ?_) (fun c11 => ?_)
    · exact absurd (show x8 = 0 from c11) (by rw [ex8, if_pos z2]; decide)
    · refine lv_iload_n hx hb d_U_ask_14 rfl (lv_at hl 3 rfl) ?_
      refine pr_call (As := [.int c9]) (rest := []) hx hb hml hown hts (c_isCoefficient l c9) (w_U_isCoefficient_cw hts k_U_76 rfl rfl ⟨Nat.le_of_ble_eq_true rfl, Nat.le_of_ble_eq_true rfl⟩) rfl hl.1 rfl (lv_room (Nat.le_of_ble_eq_true rfl)) d_U_ask_15 ⟨Nat.zero_le _, Nat.zero_le _⟩ ?_
      refine lv_topi (fun x15 ex15 => ?_)
      refine lv_if_ne (tgt := 31) hx hb d_U_ask_18 (by decide) (fun c18 => ?_) (fun c18 => ?_)
      · refine lv_iload_n hx hb d_U_ask_31 rfl (lv_at hl 2 rfl) ?_
        refine lv_i2l hx hb d_U_ask_32 rfl ?_
        refine lv_topl (fun x32 ex32 => ?_)
        refine lv_iload_n hx hb d_U_ask_33 rfl (lv_at hl 2 rfl) ?_
        refine lv_i2l hx hb d_U_ask_34 rfl ?_
        refine lv_topl (fun x34 ex34 => ?_)
        refine lv_lmul hx hb d_U_ask_35 ?_
        refine lv_topl (fun x35 ex35 => ?_)
        refine lv_ldc2 (v := 4) hx hb hown (hts _ k_U_81) d_U_ask_36 ?_
        refine lv_iload_n hx hb d_U_ask_39 rfl (lv_at hl 1 rfl) ?_
        refine lv_i2l hx hb d_U_ask_40 rfl ?_
        refine lv_topl (fun x40 ex40 => ?_)
        refine lv_lmul hx hb d_U_ask_41 ?_
        refine lv_topl (fun x41 ex41 => ?_)
        refine lv_iload_n hx hb d_U_ask_42 rfl (lv_at hl 3 rfl) ?_
        refine lv_i2l hx hb d_U_ask_43 rfl ?_
        refine lv_topl (fun x43 ex43 => ?_)
        refine lv_lmul hx hb d_U_ask_44 ?_
        refine lv_topl (fun x44 ex44 => ?_)
        refine lv_lsub hx hb d_U_ask_45 ?_
        refine lv_topl (fun x45 ex45 => ?_)
        refine lv_aload_n hx hb d_U_ask_46 rfl (lv_at hl 0 rfl) ?_
        refine va_get (D := z.1) (ci := 0) (v := .int g.1) (C := R_U) (T := F_U) (N := 11) hx hb hts in_U hown hU.2.1 hU.1 0 rfl rfl 9 (by decide) (hts _ k_U_63) (fun _ h9 => h9) rfl d_U_ask_47 ?_
        refine lv_topi (fun x47 ex47 => ?_)
        refine lv_i2l hx hb d_U_ask_50 rfl ?_
        refine lv_topl (fun x50 ex50 => ?_)
        refine W.lcmp hx hb d_U_ask_51 ?_
        have t35 : x35.toInt = B * B := by rw [ex35, Jvm.Kit.i64_mul] <;> rw [tB9 x32 ex32, tB9 x34 ex34] <;> omega
        have t41 : x41.toInt = 4 * A := by rw [ex41, Jvm.Kit.i64_mul] <;> rw [tA x40 ex40, show (4 : Int64).toInt = 4 from rfl] <;> omega
        have t44 : x44.toInt = 4 * A * C := by rw [ex44, Jvm.Kit.i64_mul] <;> rw [t41, tC x43 ex43] <;> rw [hac] <;> omega
        have t45 : x45.toInt = d := by rw [← hdd, ex45, Jvm.Kit.i64_sub] <;> rw [t35, t44] <;> rw [hac] <;> omega
        have t50 : x50.toInt = d := by rw [ex50, Jvm.Kit.i64_of_i32, ex47]; exact hS.1
        refine lv_if_eq (tgt := 65) hx hb d_U_ask_52 (by decide) (fun c52 => ?_) (fun c52 => ?_)
        · have hz2 := z2
          have hz3 := z3
          refine lv_iload_n hx hb d_U_ask_65 rfl (lv_at hl 1 rfl) ?_
          refine lv_iload_n hx hb d_U_ask_66 rfl (lv_at hl 2 rfl) ?_
          refine pr_call (As := [.int a, .int b]) (rest := []) hx hb hml hown hts (c_commonDivisor l (x := a) (y := b) (by omega) (by omega)) (w_U_commonDivisor_cw hts k_U_85 rfl rfl ⟨Nat.le_of_ble_eq_true rfl, Nat.le_of_ble_eq_true rfl⟩) rfl hl.1 rfl (lv_room (Nat.le_of_ble_eq_true rfl)) d_U_ask_67 ⟨Nat.zero_le _, Nat.zero_le _⟩ ?_
          refine lv_topi (fun x67 ex67 => ?_)
          have hgl : Nat.gcd a.toInt.natAbs b.toInt.natAbs ≤ 1073741824 := gcd_le' (by omega) (by omega)
          have t67 : x67.toInt.natAbs = Nat.gcd a.toInt.natAbs b.toInt.natAbs := by rw [ex67, nI_toInt (by omega)]; rfl
          refine lv_iload_n hx hb d_U_ask_70 rfl (lv_at hl 3 rfl) ?_
          refine pr_call (As := [.int x67, .int c9]) (rest := []) hx hb hml hown hts (c_commonDivisor l (x := x67) (y := c9) (by omega) (by omega)) (w_U_commonDivisor_cw hts k_U_85 rfl rfl ⟨Nat.le_of_ble_eq_true rfl, Nat.le_of_ble_eq_true rfl⟩) rfl hl.1 rfl (lv_room (Nat.le_of_ble_eq_true rfl)) d_U_ask_71 ⟨Nat.zero_le _, Nat.zero_le _⟩ ?_
          refine lv_topi (fun x71 ex71 => ?_)
          rw [t67, hgcd] at ex71
          refine lv_iconst (v := 1) hx hb d_U_ask_74 (by decide) ?_
          refine lv_icmp_eq (tgt := 88) hx hb d_U_ask_75 (by decide) (fun c75 => ?_) (fun c75 => ?_)
          · refine lv_aload_n hx hb d_U_ask_88 rfl (lv_at hl 0 rfl) ?_
            refine lv_iload_n hx hb d_U_ask_89 rfl (lv_at hl 1 rfl) ?_
            refine lv_iload_n hx hb d_U_ask_90 rfl (lv_at hl 2 rfl) ?_
            refine lv_iload_n hx hb d_U_ask_91 rfl (lv_at hl 3 rfl) ?_
            obtain ⟨q1, q2, q3, -⟩ := hS
            obtain ⟨⟨a0, a1, a2⟩, ⟨b0, b1, b2⟩, -, -⟩ := id q3
            refine z_callv (z_run (As := [.int a, .int b, .int c9]) (rest := []) hx hb hml hown hts hU hN (c_makeAutomorph l z _ g a0 b0 a1 b1 (a := a) (b := b) (c0 := c9) (by omega) (by omega)) (w_U_makeAutomorph_cw hts k_U_91 rfl rfl ⟨Nat.le_of_ble_eq_true rfl, Nat.le_of_ble_eq_true rfl⟩) (z_recvM hU) rfl hl.1 rfl (lv_room (Nat.le_of_ble_eq_true rfl)) d_U_ask_92 ⟨Nat.zero_le _, Nat.zero_le _⟩) hU (fun g92 H locs hp hU => ?_)
            obtain ⟨s1, k2, k3, k4, k5, y2, y3, y4, y5⟩ := hp
            rw [a2, b2] at y2 y5
            rw [b2] at y3 y4
            exact z_vret hx hb hr hlocks hsz hU ⟨by rw [s1.1, q1], by rw [s1.2.1, q2], q3.keep s1, ⟨k2, k3, k4, k5⟩, y2, y3, y4, y5⟩ d_U_ask_95
          · exact absurd ex71 c75
        · exact absurd ((lg_cmp_eq _ _).mpr (Int64.toInt_inj.mp (t45.trans t50.symm))) c52
      · exact absurd (show x15 = 0 from c18) (by rw [ex15, if_pos z3]; decide)
