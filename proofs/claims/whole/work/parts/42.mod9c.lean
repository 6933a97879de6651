/-! residue -/
set_option maxHeartbeats 4000000 in
set_option maxRecDepth 100000 in
theorem cm_residue (l : Launch) (z : YM) (sz : Nat) (g : SM) (i m9 : Int32) (hok : dgOk g.2.2.2.2.2) : Met l y_M_residue (zw y_M_residue b_M_residue 3 (some .int)) { frames := 4, cells := 0, slots := 0, locals := 102 } (va_Pc [.ref (oM z), .int i, .int m9] (mI z g sz)) (va_Qi (fun r g2 => (¬ (0 ≤ i.toInt ∧ i.toInt ≤ 7) → g2 = mC g 1) ∧ ((0 ≤ i.toInt ∧ i.toInt ≤ 7) → m9.toInt < 1 → g2 = mC g 2) ∧ ((0 ≤ i.toInt ∧ i.toInt ≤ 7) → 1 ≤ m9.toInt → (∃ f, g2 = mF (mC g 0) f ∧ dgOk f ∧ rsm g.2.2.2.2.2 f 10) ∧ r.toInt = sv g.2.2.2.2.2 i.toInt.toNat % m9.toInt)) (mO z sz) (yA z sz)) 0 0 (yA z sz) := by
  refine m_ofW (by decide) (Nat.le_of_ble_eq_true rfl) (fun p e s m below meth c hx hb hr hml hown hts hlocks hname hsz ls hU hl => ?_)
  have hl : lv_has ls 3 [(0, .ref (oM z)), (1, .int i), (2, .int m9)] := hl
  refine lv_iload_n hx hb d_M_residue_0 rfl (lv_at hl 1 rfl) ?_
  refine lv_i2l hx hb d_M_residue_1 rfl ?_
  refine lv_topl (fun x1 ex1 => ?_)
  refine lv_lconst (v := 0) hx hb d_M_residue_2 (by decide) ?_
  refine lv_ldc2 (v := 7) hx hb hown (hts _ k_M_134) d_M_residue_3 ?_
  have t1 : x1.toInt = i.toInt := by rw [ex1]; exact Jvm.Kit.i64_of_i32 i
  refine pr_call (As := [.long x1, .long 0, .long 7]) (rest := []) hx hb hml hown hts (cm_in l x1 0 7) (w_M_in_cw hts k_M_88 rfl rfl ⟨Nat.le_of_ble_eq_true rfl, Nat.le_of_ble_eq_true rfl⟩) rfl hl.1 rfl (lv_room (Nat.le_of_ble_eq_true rfl)) d_M_residue_6 ⟨Nat.zero_le _, Nat.zero_le _⟩ ?_
  refine lv_topi (fun x6 ex6 => ?_)
  rw [t1, show (0 : Int64).toInt = 0 from rfl, show (7 : Int64).toInt = 7 from rfl] at ex6
  refine lv_if_ne (tgt := 18) hx hb d_M_residue_9 (by decide) (fun c9 => ?_) (fun c9 => ?_)
  · have h9 : 0 ≤ i.toInt ∧ i.toInt ≤ 7 := Classical.byContradiction fun q => c9 (by rw [ex6, if_neg q])
    refine lv_iload_n hx hb d_M_residue_18 rfl (lv_at hl 2 rfl) ?_
    refine lv_iconst (v := 1) hx hb d_M_residue_19 (by decide) ?_
    refine lv_icmp_ge (tgt := 29) hx hb d_M_residue_20 (by decide) (fun c20 => ?_) (fun c20 => ?_)
    · have h20 : 1 ≤ m9.toInt := Int32.le_iff_toInt_le.mp c20
      obtain ⟨j, ej⟩ : ∃ j, j = i.toInt.toNat := ⟨_, rfl⟩
      have hij : i = nI j := by apply Int32.toInt_inj.mp; rw [nI_toInt (by omega)]; omega
      obtain ⟨M, eM⟩ : ∃ M, M = m9.toInt.toNat := ⟨_, rfl⟩
      have hmr := i32_rng m9
      refine lv_aload_n hx hb d_M_residue_29 rfl (lv_at hl 0 rfl) ?_
      refine lv_iconst (v := 0) hx hb d_M_residue_30 (by decide) ?_
      refine mp_C hx hb hts hown hU (hts _ k_M_23) d_M_residue_31 (fun H locs hU => ?_)
      generalize eg31 : mC g 0 = g31 at hU
      refine lv_aload_n hx hb d_M_residue_34 rfl (lv_at hl 0 rfl) ?_
      refine lv_iload_n hx hb d_M_residue_35 rfl (lv_at hl 1 rfl) ?_
      refine lv_iload_n hx hb d_M_residue_36 rfl (lv_at hl 2 rfl) ?_
      refine lv_i2l hx hb d_M_residue_37 rfl ?_
      refine lv_topl (fun x37 ex37 => ?_)
      have hokc : dgOk g31.2.2.2.2.2 := by rw [← eg31]; exact hok
      have e37 : x37 = lN M := by
        apply Int64.toInt_inj.mp
        rw [ex37, Jvm.Kit.i64_of_i32, pk_lT (by omega)]
        omega
      refine m_calll (m_run (As := [.int i, .long x37]) (rest := []) hx hb hml hown hts hU (cm_left2 l z _ g31 (i := j) hij (by omega) hokc (M := M) e37 (by omega) (by omega)) (w_M_left_cw hts k_M_115 rfl rfl ⟨Nat.le_of_ble_eq_true rfl, Nat.le_of_ble_eq_true rfl⟩) (m_recv hU) rfl hl.1 rfl (lv_room (Nat.le_of_ble_eq_true rfl)) d_M_residue_38 ⟨Nat.zero_le _, Nat.zero_le _⟩) hU (fun r38 g38 H locs hp hU => ?_)
      obtain ⟨f, k1, k2, k3, k4⟩ := hp
      refine lv_l2i hx hb d_M_residue_41 rfl ?_
      refine lv_topi (fun x41 ex41 => ?_)
      have hb1 := Int.emod_nonneg (sv g31.2.2.2.2.2 j) (show (M : Int) ≠ 0 by omega)
      have hb2 := Int.emod_lt_of_pos (sv g31.2.2.2.2.2 j) (show (0 : Int) < (M : Int) by omega)
      have t41 : x41.toInt = sv g31.2.2.2.2.2 j % (M : Int) := by
        rw [ex41]
        clear eg31 ex41
        generalize sv g31.2.2.2.2.2 j % (M : Int) = A at k4 hb1 hb2
        rw [← k4] at hb1 hb2 ⊢
        exact Jvm.Kit.i32_of_i64 (by omega) (by omega)
      exact m_iret hx hb hr hlocks hsz hU ⟨fun q => absurd h9 q, fun _ q => absurd h20 (by omega), fun _ _ => ⟨⟨f, by rw [k1]; try rw [← eg31], k2, by rw [← eg31] at k3; exact k3⟩, by
        rw [t41, ← ej, ← eg31, show m9.toInt = (M : Int) by omega]; rfl⟩⟩ d_M_residue_42
    · have h20 : ¬ 1 ≤ m9.toInt := fun q => c20 (Int32.le_iff_toInt_le.mpr q)
      refine lv_aload_n hx hb d_M_residue_23 rfl (lv_at hl 0 rfl) ?_
      refine lv_iconst (v := 2) hx hb d_M_residue_24 (by decide) ?_
      refine m_calli (m_run (As := [.int 2]) (rest := []) hx hb hml hown hts hU (cm_raise l z _ g 2) (w_M_raise_cw hts k_M_138 rfl rfl ⟨Nat.le_of_ble_eq_true rfl, Nat.le_of_ble_eq_true rfl⟩) (m_recv hU) rfl hl.1 rfl (lv_room (Nat.le_of_ble_eq_true rfl)) d_M_residue_25 ⟨Nat.zero_le _, Nat.zero_le _⟩) hU (fun r25 g25 H locs hp hU => ?_)
      exact m_iret hx hb hr hlocks hsz hU ⟨fun q => absurd h9 q, fun _ _ => hp, fun _ q => absurd q h20⟩ d_M_residue_28
  · have h9 : ¬ (0 ≤ i.toInt ∧ i.toInt ≤ 7) := fun q => by rw [ex6, if_pos q] at c9; exact absurd c9 (by decide)
    refine lv_aload_n hx hb d_M_residue_12 rfl (lv_at hl 0 rfl) ?_
    refine lv_iconst (v := 1) hx hb d_M_residue_13 (by decide) ?_
    refine m_calli (m_run (As := [.int 1]) (rest := []) hx hb hml hown hts hU (cm_raise l z _ g 1) (w_M_raise_cw hts k_M_138 rfl rfl ⟨Nat.le_of_ble_eq_true rfl, Nat.le_of_ble_eq_true rfl⟩) (m_recv hU) rfl hl.1 rfl (lv_room (Nat.le_of_ble_eq_true rfl)) d_M_residue_14 ⟨Nat.zero_le _, Nat.zero_le _⟩) hU (fun r14 g14 H locs hp hU => ?_)
    exact m_iret hx hb hr hlocks hsz hU ⟨fun _ => hp, fun q _ => absurd q h9, fun q _ => absurd q h9⟩ d_M_residue_17
