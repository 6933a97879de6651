/-! sign -/
theorem sv_ng {f : Nat → Int32} {i : Nat} (h : ¬ rv f i < HW) (h2 : rv f i < WW) : sv f i < 0 := by
  unfold sv
  rw [if_neg h]
  have h3 : (rv f i : Int) < (WW : Int) := Int.ofNat_lt.mpr h2
  generalize (rv f i : Int) = R at h3
  generalize (WW : Int) = Q at h3
  omega
set_option maxHeartbeats 4000000 in
set_option maxRecDepth 100000 in
theorem cm_sign (l : Launch) (z : YM) (sz : Nat) (g : SM) (i : Int32) (hok : dgOk g.2.2.2.2.2) : Met l y_M_sign (zw y_M_sign b_M_sign 2 (some .int)) { frames := 2, cells := 0, slots := 0, locals := 44 } (va_Pc [.ref (oM z), .int i] (mI z g sz)) (va_Qi (fun r g2 => ((0 ≤ i.toInt ∧ i.toInt ≤ 7) → g2 = mC g 0 ∧ r.toInt = (sv g.2.2.2.2.2 i.toInt.toNat).sign) ∧ (¬ (0 ≤ i.toInt ∧ i.toInt ≤ 7) → g2 = mC g 1)) (mO z sz) (yA z sz)) 0 0 (yA z sz) := by
  refine m_ofW (by decide) (Nat.le_of_ble_eq_true rfl) (fun p e s m below meth c hx hb hr hml hown hts hlocks hname hsz ls hU hl => ?_)
  have hl : lv_has ls 2 [(0, .ref (oM z)), (1, .int i)] := hl
  refine lv_aload_n hx hb d_M_sign_0 rfl (lv_at hl 0 rfl) ?_
  refine lv_iload_n hx hb d_M_sign_1 rfl (lv_at hl 1 rfl) ?_
  refine lv_i2l hx hb d_M_sign_2 rfl ?_
  refine lv_topl (fun x2 ex2 => ?_)
  refine lv_lconst (v := 0) hx hb d_M_sign_3 (by decide) ?_
  refine lv_ldc2 (v := 7) hx hb hown (hts _ k_M_134) d_M_sign_4 ?_
  have t2 : x2.toInt = i.toInt := by rw [ex2]; exact Jvm.Kit.i64_of_i32 i
  refine pr_call (As := [.long x2, .long 0, .long 7]) (rest := [.ref (oM z)]) hx hb hml hown hts (cm_in l x2 0 7) (w_M_in_cw hts k_M_88 rfl rfl ⟨Nat.le_of_ble_eq_true rfl, Nat.le_of_ble_eq_true rfl⟩) rfl hl.1 rfl (lv_room (Nat.le_of_ble_eq_true rfl)) d_M_sign_7 ⟨Nat.zero_le _, Nat.zero_le _⟩ ?_
  refine lv_topi (fun x7 ex7 => ?_)
  rw [t2, show (0 : Int64).toInt = 0 from rfl, show (7 : Int64).toInt = 7 from rfl] at ex7
  refine lv_if_eq (tgt := 17) hx hb d_M_sign_10 (by decide) (fun c10 => ?_) (fun c10 => ?_)
  · have h10 : ¬ (0 ≤ i.toInt ∧ i.toInt ≤ 7) := fun q => by rw [ex7, if_pos q] at c10; exact absurd c10 (by decide)
    refine lv_iconst (v := 1) hx hb d_M_sign_17 (by decide) ?_
    refine mp_C hx hb hts hown hU (hts _ k_M_23) d_M_sign_18 (fun H locs hU => ?_)
    generalize eg18 : mC g 1 = g18 at hU
    refine lv_aload_n hx hb d_M_sign_21 rfl (lv_at hl 0 rfl) ?_
    refine va_get (D := z.1) (ci := 3) (v := .int g18.1) (C := R_M) (T := F_M) (N := 9) hx hb hts in_M hown hU.2.1 hU.1 0 rfl rfl 0 (by decide) (hts _ k_M_23) (fun _ h9 => h9) rfl d_M_sign_22 ?_
    refine lv_topi (fun x22 ex22 => ?_)
    have e22 : x22 = 1 := by rw [ex22, ← eg18]; rfl
    refine lv_if_le (tgt := 30) hx hb d_M_sign_25 (by decide) (fun c25 => ?_) (fun c25 => ?_)
    · exact absurd c25 (by rw [e22]; decide)
    · refine lv_iconst (v := 0) hx hb d_M_sign_28 (by decide) ?_
      exact m_iret hx hb hr hlocks hsz hU ⟨fun q => absurd q h10, fun _ => by first | exact eg18.symm | rfl⟩ d_M_sign_29
  · have h10 : 0 ≤ i.toInt ∧ i.toInt ≤ 7 := Classical.byContradiction fun q => c10 (by rw [ex7, if_neg q])
    refine lv_iconst (v := 0) hx hb d_M_sign_13 (by decide) ?_
    refine lv_goto (tgt := 18) hx hb d_M_sign_14 (by decide) ?_
    refine mp_C hx hb hts hown hU (hts _ k_M_23) d_M_sign_18 (fun H locs hU => ?_)
    generalize eg18 : mC g 0 = g18 at hU
    refine lv_aload_n hx hb d_M_sign_21 rfl (lv_at hl 0 rfl) ?_
    refine va_get (D := z.1) (ci := 3) (v := .int g18.1) (C := R_M) (T := F_M) (N := 9) hx hb hts in_M hown hU.2.1 hU.1 0 rfl rfl 0 (by decide) (hts _ k_M_23) (fun _ h9 => h9) rfl d_M_sign_22 ?_
    refine lv_topi (fun x22 ex22 => ?_)
    have e22 : x22 = 0 := by rw [ex22, ← eg18]; rfl
    obtain ⟨j, ej⟩ : ∃ j, j = i.toInt.toNat := ⟨_, rfl⟩
    have hij : i = nI j := by apply Int32.toInt_inj.mp; rw [nI_toInt (by omega)]; omega
    have hokc : dgOk g18.2.2.2.2.2 := by rw [← eg18]; exact hok
    have hf : g18.2.2.2.2.2 = g.2.2.2.2.2 := by rw [← eg18]; rfl
    refine lv_if_le (tgt := 30) hx hb d_M_sign_25 (by decide) (fun c25 => ?_) (fun c25 => ?_)
    · refine lv_aload_n hx hb d_M_sign_30 rfl (lv_at hl 0 rfl) ?_
      refine lv_iload_n hx hb d_M_sign_31 rfl (lv_at hl 1 rfl) ?_
      refine m_calli (m_run (As := [.int i]) (rest := []) hx hb hml hown hts hU (cm_isBelow2 l z _ g18 (i := j) hij (by omega)) (w_M_isBelow_cw hts k_M_123 rfl rfl ⟨Nat.le_of_ble_eq_true rfl, Nat.le_of_ble_eq_true rfl⟩) (m_recv hU) rfl hl.1 rfl (lv_room (Nat.le_of_ble_eq_true rfl)) d_M_sign_32 ⟨Nat.zero_le _, Nat.zero_le _⟩) hU (fun r32 g32 H locs hp hU => ?_)
      obtain ⟨q1, q2⟩ := hp
      rw [q1] at hU
      rw [dg_int (hokc _ (by omega))] at q2
      have htop := top_iff (f := g18.2.2.2.2.2) (i := j) (by omega) hokc
      have hrl := rv_lt (f := g18.2.2.2.2.2) (i := j) (by omega) hokc
      refine lv_if_eq (tgt := 42) hx hb d_M_sign_35 (by decide) (fun c35 => ?_) (fun c35 => ?_)
      · have h5 : rv g18.2.2.2.2.2 j < HW := by
          apply Classical.byContradiction
          intro w
          rw [q2, if_pos (by have := htop.mpr (by omega); omega)] at c35
          exact absurd c35 (by decide)
        refine lv_aload_n hx hb d_M_sign_42 rfl (lv_at hl 0 rfl) ?_
        refine lv_iload_n hx hb d_M_sign_43 rfl (lv_at hl 1 rfl) ?_
        refine m_calli (m_run (As := [.int i]) (rest := []) hx hb hml hown hts hU (cm_length2 l z _ g18 (i := j) hij (by omega)) (w_M_length_cw hts k_M_37 rfl rfl ⟨Nat.le_of_ble_eq_true rfl, Nat.le_of_ble_eq_true rfl⟩) (m_recv hU) rfl hl.1 rfl (lv_room (Nat.le_of_ble_eq_true rfl)) d_M_sign_44 ⟨Nat.zero_le _, Nat.zero_le _⟩) hU (fun r44 g44 H locs hp hU => ?_)
        obtain ⟨q3, n, k1, k2, k3, k4⟩ := hp
        rw [q3] at hU
        have hV : rv g18.2.2.2.2.2 j = dv g18.2.2.2.2.2 j n := dv_zero k1 k3
        have hsv : sv g18.2.2.2.2.2 j = (rv g18.2.2.2.2.2 j : Int) := by rw [sv, if_pos h5]
        refine lv_if_le (tgt := 54) hx hb d_M_sign_47 (by decide) (fun c47 => ?_) (fun c47 => ?_)
        · have h47 : n = 0 := by
            rw [k2] at c47
            exact Nat.eq_zero_of_not_pos (fun q => nI_nle q (by omega) c47)
          refine lv_iconst (v := 0) hx hb d_M_sign_54 (by decide) ?_
          exact m_iret hx hb hr hlocks hsz hU ⟨fun _ => ⟨by first | exact eg18.symm | rfl, by rw [← ej, ← hf, hsv, hV, h47]; rfl⟩, fun q => absurd h10 q⟩ d_M_sign_55
        · have h47 : 0 < n := Nat.pos_of_ne_zero (fun q => c47 (by rw [k2, q]; decide))
          refine lv_iconst (v := 1) hx hb d_M_sign_50 (by decide) ?_
          refine lv_goto (tgt := 55) hx hb d_M_sign_51 (by decide) ?_
          have hpos : 0 < rv g18.2.2.2.2.2 j := by
            rw [hV]
            obtain ⟨t, rfl⟩ : ∃ t, n = t + 1 := ⟨n - 1, by omega⟩
            rw [dv_s]
            have h9 : wn (g18.2.2.2.2.2 (1100 * j + t)) ≠ 0 := fun q => k4.resolve_left (by omega) (wn_inj (by rw [Nat.add_sub_cancel]; exact q.trans wn_0.symm))
            exact Nat.lt_of_lt_of_le (Nat.mul_pos (Nat.pos_of_ne_zero h9) (Nat.pow_pos (by decide))) (Nat.le_add_left _ _)
          exact m_iret hx hb hr hlocks hsz hU ⟨fun _ => ⟨by first | exact eg18.symm | rfl, by rw [← ej, ← hf, hsv, Int.sign_eq_one_of_pos (Int.ofNat_lt.mpr hpos)]; rfl⟩, fun q => absurd h10 q⟩ d_M_sign_55
      · have h5 : ¬ rv g18.2.2.2.2.2 j < HW := by
          intro w
          exact c35 (by rw [q2, if_neg (fun q => by have := htop.mp (by omega); omega)])
        refine lv_iconst (v := (-1)) hx hb d_M_sign_38 (by decide) ?_
        refine lv_goto (tgt := 55) hx hb d_M_sign_39 (by decide) ?_
        exact m_iret hx hb hr hlocks hsz hU ⟨fun _ => ⟨by first | exact eg18.symm | rfl, by rw [← ej, ← hf, Int.sign_eq_neg_one_of_neg (sv_ng h5 hrl)]; rfl⟩, fun q => absurd h10 q⟩ d_M_sign_55
    · exact absurd (by rw [e22]; decide) c25
