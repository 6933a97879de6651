/-! word -/
theorem nI_mul (a b : Nat) : nI a * nI b = nI (a * b) := (Int32.ofNat_mul a b).symm
theorem wn_dlo {a b : Int32} (ha : wn a < 65536) (hb : wn b < 65536) : wn (a ||| b <<< ((16 : Int32) &&& 31)) = wn a + wn b * 65536 := by
  have h2 : (b <<< ((16 : Int32) &&& 31)).toBitVec.toNat = wn b * 2 ^ 16 % 2 ^ 32 := pk_shl b _ 16 (by decide)
  show (a.toBitVec ||| (b <<< ((16 : Int32) &&& 31)).toBitVec).toNat = _
  rw [BitVec.toNat_or, h2, Nat.or_comm]
  have h3 : wn b * 2 ^ 16 % 2 ^ 32 = 2 ^ 16 * wn b := by omega
  rw [h3, show a.toBitVec.toNat = wn a from rfl, ← Nat.two_pow_add_eq_or_of_lt (i := 16) (by omega) (wn b)]
  omega
theorem two_dg {V k a b : Nat} (h1 : V / 65536 ^ (2 * k) % 65536 = a) (h2 : V / 65536 ^ (2 * k + 1) % 65536 = b) : V / 4294967296 ^ k % 4294967296 = a + b * 65536 := by
  have e : (4294967296 : Nat) ^ k = 65536 ^ (2 * k) := by rw [Nat.pow_mul]
  rw [e]
  rw [Nat.pow_succ, ← Nat.div_div_eq_div_mul] at h2
  generalize V / 65536 ^ (2 * k) = X at h1 h2
  omega
theorem rv_dg {f : Nat → Int32} {i k : Nat} (hi : i < 11) (h : dgOk f) (hk : k < 1100) : rv f i / 65536 ^ k % 65536 = wn (f (1100 * i + k)) := dv_word hi h k 1100 hk (Nat.le_refl _)
set_option maxHeartbeats 4000000 in
set_option maxRecDepth 100000 in
theorem cm_word (l : Launch) (z : YM) (sz : Nat) (g : SM) (i k9 : Int32) (hok : dgOk g.2.2.2.2.2) : Met l y_M_word (zw y_M_word b_M_word 4 (some .int)) { frames := 3, cells := 0, slots := 0, locals := 76 } (va_Pc [.ref (oM z), .int i, .int k9] (mI z g sz)) (va_Qi (fun r g2 => (((0 ≤ i.toInt ∧ i.toInt ≤ 7) ∧ (0 ≤ k9.toInt ∧ k9.toInt ≤ 511)) → (∃ f, g2 = mF (mC g 0) f ∧ dgOk f ∧ rsm g.2.2.2.2.2 f 10) ∧ wn r = (sv g.2.2.2.2.2 i.toInt.toNat).natAbs / 4294967296 ^ k9.toInt.toNat % 4294967296) ∧ (¬ ((0 ≤ i.toInt ∧ i.toInt ≤ 7) ∧ (0 ≤ k9.toInt ∧ k9.toInt ≤ 511)) → g2 = mC g 1)) (mO z sz) (yA z sz)) 0 0 (yA z sz) := by
  refine m_ofW (by decide) (Nat.le_of_ble_eq_true rfl) (fun p e s m below meth c hx hb hr hml hown hts hlocks hname hsz ls hU hl => ?_)
  have hl : lv_has ls 4 [(0, .ref (oM z)), (1, .int i), (2, .int k9)] := hl
  refine lv_aload_n hx hb d_M_word_0 rfl (lv_at hl 0 rfl) ?_
  refine lv_iload_n hx hb d_M_word_1 rfl (lv_at hl 1 rfl) ?_
  refine lv_i2l hx hb d_M_word_2 rfl ?_
  refine lv_topl (fun x2 ex2 => ?_)
  refine lv_lconst (v := 0) hx hb d_M_word_3 (by decide) ?_
  refine lv_ldc2 (v := 7) hx hb hown (hts _ k_M_134) d_M_word_4 ?_
  have t2 : x2.toInt = i.toInt := by rw [ex2]; exact Jvm.Kit.i64_of_i32 i
  refine pr_call (As := [.long x2, .long 0, .long 7]) (rest := [.ref (oM z)]) hx hb hml hown hts (cm_in l x2 0 7) (w_M_in_cw hts k_M_88 rfl rfl ⟨Nat.le_of_ble_eq_true rfl, Nat.le_of_ble_eq_true rfl⟩) rfl hl.1 rfl (lv_room (Nat.le_of_ble_eq_true rfl)) d_M_word_7 ⟨Nat.zero_le _, Nat.zero_le _⟩ ?_
  refine lv_topi (fun x7 ex7 => ?_)
  rw [t2, show (0 : Int64).toInt = 0 from rfl, show (7 : Int64).toInt = 7 from rfl] at ex7
  refine lv_if_eq (tgt := 29) hx hb d_M_word_10 (by decide) (fun c10 => ?_) (fun c10 => ?_)
  · have h10 : ¬ (0 ≤ i.toInt ∧ i.toInt ≤ 7) := fun q => by rw [ex7, if_pos q] at c10; exact absurd c10 (by decide)
    refine lv_iconst (v := 1) hx hb d_M_word_29 (by decide) ?_
    refine mp_C hx hb hts hown hU (hts _ k_M_23) d_M_word_30 (fun H locs hU => ?_)
    generalize eg30 : mC g 1 = g30 at hU
    refine lv_aload_n hx hb d_M_word_33 rfl (lv_at hl 0 rfl) ?_
    refine va_get (D := z.1) (ci := 3) (v := .int g30.1) (C := R_M) (T := F_M) (N := 9) hx hb hts in_M hown hU.2.1 hU.1 0 rfl rfl 0 (by decide) (hts _ k_M_23) (fun _ h9 => h9) rfl d_M_word_34 ?_
    refine lv_topi (fun x34 ex34 => ?_)
    have e34 : x34 = 1 := by rw [ex34, ← eg30]; rfl
    refine lv_if_le (tgt := 42) hx hb d_M_word_37 (by decide) (fun c37 => ?_) (fun c37 => ?_)
    · exact absurd c37 (by rw [e34]; decide)
    · refine lv_iconst (v := 0) hx hb d_M_word_40 (by decide) ?_
      exact m_iret hx hb hr hlocks hsz hU ⟨fun q => absurd q.1 h10, fun _ => by first | exact eg30.symm | rfl⟩ d_M_word_41
  · have h10 : 0 ≤ i.toInt ∧ i.toInt ≤ 7 := Classical.byContradiction fun q => c10 (by rw [ex7, if_neg q])
    refine lv_iload_n hx hb d_M_word_13 rfl (lv_at hl 2 rfl) ?_
    refine lv_i2l hx hb d_M_word_14 rfl ?_
    refine lv_topl (fun x14 ex14 => ?_)
    refine lv_lconst (v := 0) hx hb d_M_word_15 (by decide) ?_
    refine lv_ldc2 (v := 511) hx hb hown (hts _ k_M_136) d_M_word_16 ?_
    have t14 : x14.toInt = k9.toInt := by rw [ex14]; exact Jvm.Kit.i64_of_i32 k9
    refine pr_call (As := [.long x14, .long 0, .long 511]) (rest := [.ref (oM z)]) hx hb hml hown hts (cm_in l x14 0 511) (w_M_in_cw hts k_M_88 rfl rfl ⟨Nat.le_of_ble_eq_true rfl, Nat.le_of_ble_eq_true rfl⟩) rfl hl.1 rfl (lv_room (Nat.le_of_ble_eq_true rfl)) d_M_word_19 ⟨Nat.zero_le _, Nat.zero_le _⟩ ?_
    refine lv_topi (fun x19 ex19 => ?_)
    rw [t14, show (0 : Int64).toInt = 0 from rfl, show (511 : Int64).toInt = 511 from rfl] at ex19
    refine lv_if_eq (tgt := 29) hx hb d_M_word_22 (by decide) (fun c22 => ?_) (fun c22 => ?_)
    · have h22 : ¬ (0 ≤ k9.toInt ∧ k9.toInt ≤ 511) := fun q => by rw [ex19, if_pos q] at c22; exact absurd c22 (by decide)
      refine lv_iconst (v := 1) hx hb d_M_word_29 (by decide) ?_
      refine mp_C hx hb hts hown hU (hts _ k_M_23) d_M_word_30 (fun H locs hU => ?_)
      generalize eg30 : mC g 1 = g30 at hU
      refine lv_aload_n hx hb d_M_word_33 rfl (lv_at hl 0 rfl) ?_
      refine va_get (D := z.1) (ci := 3) (v := .int g30.1) (C := R_M) (T := F_M) (N := 9) hx hb hts in_M hown hU.2.1 hU.1 0 rfl rfl 0 (by decide) (hts _ k_M_23) (fun _ h9 => h9) rfl d_M_word_34 ?_
      refine lv_topi (fun x34 ex34 => ?_)
      have e34 : x34 = 1 := by rw [ex34, ← eg30]; rfl
      refine lv_if_le (tgt := 42) hx hb d_M_word_37 (by decide) (fun c37 => ?_) (fun c37 => ?_)
      · exact absurd c37 (by rw [e34]; decide)
      · refine lv_iconst (v := 0) hx hb d_M_word_40 (by decide) ?_
        exact m_iret hx hb hr hlocks hsz hU ⟨fun q => absurd q.2 h22, fun _ => by first | exact eg30.symm | rfl⟩ d_M_word_41
    · have h22 : 0 ≤ k9.toInt ∧ k9.toInt ≤ 511 := Classical.byContradiction fun q => c22 (by rw [ex19, if_neg q])
      refine lv_iconst (v := 0) hx hb d_M_word_25 (by decide) ?_
      refine lv_goto (tgt := 30) hx hb d_M_word_26 (by decide) ?_
      refine mp_C hx hb hts hown hU (hts _ k_M_23) d_M_word_30 (fun H locs hU => ?_)
      generalize eg30 : mC g 0 = g30 at hU
      refine lv_aload_n hx hb d_M_word_33 rfl (lv_at hl 0 rfl) ?_
      refine va_get (D := z.1) (ci := 3) (v := .int g30.1) (C := R_M) (T := F_M) (N := 9) hx hb hts in_M hown hU.2.1 hU.1 0 rfl rfl 0 (by decide) (hts _ k_M_23) (fun _ h9 => h9) rfl d_M_word_34 ?_
      refine lv_topi (fun x34 ex34 => ?_)
      have e34 : x34 = 0 := by rw [ex34, ← eg30]; rfl
      obtain ⟨j, ej⟩ : ∃ j, j = i.toInt.toNat := ⟨_, rfl⟩
      have hij : i = nI j := by apply Int32.toInt_inj.mp; rw [nI_toInt (by omega)]; omega
      obtain ⟨k, ek⟩ : ∃ k, k = k9.toInt.toNat := ⟨_, rfl⟩
      have hk : k9 = nI k := by apply Int32.toInt_inj.mp; rw [nI_toInt (by omega)]; omega
      have hj7 : j ≤ 7 := by omega
      have hk5 : k ≤ 511 := by omega
      have hokc : dgOk g30.2.2.2.2.2 := by rw [← eg30]; exact hok
      refine lv_if_le (tgt := 42) hx hb d_M_word_37 (by decide) (fun c37 => ?_) (fun c37 => ?_)
      · refine lv_aload_n hx hb d_M_word_42 rfl (lv_at hl 0 rfl) ?_
        refine lv_iload_n hx hb d_M_word_43 rfl (lv_at hl 1 rfl) ?_
        refine m_calli (m_run (As := [.int i]) (rest := []) hx hb hml hown hts hU (cm_sized2 l z _ g30 (i := j) hij (by omega) hokc) (w_M_sized_cw hts k_M_129 rfl rfl ⟨Nat.le_of_ble_eq_true rfl, Nat.le_of_ble_eq_true rfl⟩) (m_recv hU) rfl hl.1 rfl (lv_room (Nat.le_of_ble_eq_true rfl)) d_M_word_44 ⟨Nat.zero_le _, Nat.zero_le _⟩) hU (fun r44 g44 H locs hp hU => ?_)
        obtain ⟨f, n, k1, k2, k3, k4, -⟩ := hp
        rw [k1] at hU
        have hU : Ms z (mF g30 f) s.heap H locs s := hU
        refine lv_istore_n (lv' := [(3, .int r44), (0, .ref (oM z)), (1, .int i), (2, .int k9)]) hx hb d_M_word_47 rfl hl (by decide) rfl (fun ls hl => ?_)
        refine lv_aload_n hx hb d_M_word_48 rfl (lv_at hl 1 rfl) ?_
        refine lv_bipush (v := 10) hx hb d_M_word_49 (by decide) ?_
        refine lv_iconst (v := 2) hx hb d_M_word_51 (by decide) ?_
        refine lv_iload_n hx hb d_M_word_52 rfl (lv_at hl 3 rfl) ?_
        refine lv_imul hx hb d_M_word_53 ?_
        refine lv_topi (fun x53 ex53 => ?_)
        have e53 : x53 = nI (2 * k) := by rw [ex53, hk]; exact nI_mul 2 k
        refine m_calli (m_run (As := [.int 10, .int x53]) (rest := []) hx hb hml hown hts hU (cm_get2 l z _ (mF g30 f) (i := 10) (by decide) e53 (by omega)) (w_M_get_cw hts k_M_33 rfl rfl ⟨Nat.le_of_ble_eq_true rfl, Nat.le_of_ble_eq_true rfl⟩) (m_recv hU) rfl hl.1 rfl (lv_room (Nat.le_of_ble_eq_true rfl)) d_M_word_54 ⟨Nat.zero_le _, Nat.zero_le _⟩) hU (fun r54 g54 H locs hp hU => ?_)
        obtain ⟨p1, p2⟩ := hp
        rw [p1] at hU
        have hU : Ms z (mF g30 f) s.heap H locs s := hU
        refine lv_aload_n hx hb d_M_word_57 rfl (lv_at hl 1 rfl) ?_
        refine lv_bipush (v := 10) hx hb d_M_word_58 (by decide) ?_
        refine lv_iconst (v := 2) hx hb d_M_word_60 (by decide) ?_
        refine lv_iload_n hx hb d_M_word_61 rfl (lv_at hl 3 rfl) ?_
        refine lv_imul hx hb d_M_word_62 ?_
        refine lv_topi (fun x62 ex62 => ?_)
        refine lv_iconst (v := 1) hx hb d_M_word_63 (by decide) ?_
        refine lv_iadd hx hb d_M_word_64 ?_
        refine lv_topi (fun x64 ex64 => ?_)
        have e64 : x64 = nI (2 * k + 1) := by rw [ex64, ex62, hk, show (2 : Int32) = nI 2 from rfl, show (1 : Int32) = nI 1 from rfl, nI_mul, nI_add]
        refine m_calli (m_run (As := [.int 10, .int x64]) (rest := [.int r54]) hx hb hml hown hts hU (cm_get2 l z _ (mF g30 f) (i := 10) (by decide) e64 (by omega)) (w_M_get_cw hts k_M_33 rfl rfl ⟨Nat.le_of_ble_eq_true rfl, Nat.le_of_ble_eq_true rfl⟩) (m_recv hU) rfl hl.1 rfl (lv_room (Nat.le_of_ble_eq_true rfl)) d_M_word_65 ⟨Nat.zero_le _, Nat.zero_le _⟩) hU (fun r65 g65 H locs hp hU => ?_)
        obtain ⟨p3, p4⟩ := hp
        rw [p3] at hU
        have hU : Ms z (mF g30 f) s.heap H locs s := hU
        refine lv_bipush (v := 16) hx hb d_M_word_68 (by decide) ?_
        refine lv_ishl hx hb d_M_word_70 ?_
        refine lv_topi (fun x70 ex70 => ?_)
        refine lv_ior hx hb d_M_word_71 ?_
        refine lv_topi (fun x71 ex71 => ?_)
        have w1 := k2 (1100 * 10 + 2 * k) (by omega)
        have w2 := k2 (1100 * 10 + (2 * k + 1)) (by omega)
        have w3 : wn x71 = wn (f (1100 * 10 + 2 * k)) + wn (f (1100 * 10 + (2 * k + 1))) * 65536 := by
          rw [ex71, ex70, p2, p4]
          exact wn_dlo w1 w2
        have w4 := two_dg (rv_dg (i := 10) (by decide) k2 (show 2 * k < 1100 by omega)) (rv_dg (i := 10) (by decide) k2 (show 2 * k + 1 < 1100 by omega))
        rw [k4] at w4
        exact m_iret hx hb hr hlocks hsz hU ⟨fun _ => ⟨⟨f, by try rw [← eg30], k2, by rw [← eg30] at k3; exact k3⟩, by rw [w3, ← w4, ← ej, ← ek, ← eg30]; rfl⟩, fun q => absurd ⟨h10, h22⟩ q⟩ d_M_word_72
      · exact absurd (by rw [e34]; decide) c37
