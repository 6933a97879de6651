/-! UnitFinderModel: matrices, the automorph -/
set_option maxHeartbeats 4000000 in
set_option maxRecDepth 100000 in
theorem cm_times (l : Launch) (z : YM) (sz : Nat) (g : SM) {M a b c9 e9 n0 n1 n2 n3 : Nat} (hM0 : 0 < M) (hM : M < 2 ^ 31) (ha : a < M) (hb9 : b < M) (hc : c9 < M) (he : e9 < M) (h0 : n0 < M) (h1 : n1 < M) (h2 : n2 < M) (h3 : n3 < M) (q0 : g.2.2.2.2.1 0 = lN n0) (q1 : g.2.2.2.2.1 1 = lN n1) (q2 : g.2.2.2.2.1 2 = lN n2) (q3 : g.2.2.2.2.1 3 = lN n3) : Met l y_M_times (zw y_M_times b_M_times 19 none) { frames := 0, cells := 0, slots := 0, locals := 0 } (va_Pc [.ref (oM z), .long (lN a), .long (lN b), .long (lN c9), .long (lN e9), .long (lN M)] (mI z g sz)) (va_Qv (fun g2 => g2 = mX (mX (mX (mX g 0 (lN ((n0 * a + n1 * c9) % M))) 1 (lN ((n0 * b + n1 * e9) % M))) 2 (lN ((n2 * a + n3 * c9) % M))) 3 (lN ((n2 * b + n3 * e9) % M))) (mO z sz) (yA z sz)) 0 0 (yA z sz) := by
  refine m_ofW (by decide) (Nat.le_of_ble_eq_true rfl) (fun p e s m below meth c hx hb hr hml hown hts hlocks hname hsz ls hU hl => ?_)
  have hl : lv_has ls 19 [(0, .ref (oM z)), (1, .long (lN a)), (3, .long (lN b)), (5, .long (lN c9)), (7, .long (lN e9)), (9, .long (lN M))] := hl
  have hne : ∀ x : Int64, x = lN M → ¬ x = 0 := fun x hx q => by
    rw [hx, show (0 : Int64) = lN 0 from rfl, pk_lEQ (by omega) (by decide)] at q
    omega
  have hP : ∀ (u v : Nat) (y : Int64), u < M → v < M → y = lN u * lN v - lN u * lN v / lN M * lN M → y = lN (u * v % M) := fun u v y hu hv hy => by
    rw [hy, lN_mul]
    have : u * v ≤ 2147483648 * 2147483648 := Nat.mul_le_mul (by omega) (by omega)
    exact pk_lRem (by omega) hM0 (by omega)
  have hQ : ∀ (u v w t : Nat) (y : Int64), y = (lN (u * v % M) + lN (w * t % M)) - (lN (u * v % M) + lN (w * t % M)) / lN M * lN M → y = lN ((u * v + w * t) % M) := fun u v w t y hy => by
    have m1 := Nat.mod_lt (u * v) hM0
    have m2 := Nat.mod_lt (w * t) hM0
    rw [hy, lN_add, pk_lRem (by omega) hM0 (by omega), ← Nat.add_mod]
  have hne8 : ¬ lN M = 0 := hne _ rfl
  have hne18 := hne8
  have hne22 := hne8
  have hne33 := hne8
  have hne43 := hne8
  have hne47 := hne8
  have hne58 := hne8
  have hne68 := hne8
  have hne72 := hne8
  have hne83 := hne8
  have hne93 := hne8
  have hne97 := hne8
  have hne20 := hne8
  have hne31 := hne8
  have hne45 := hne8
  have hne56 := hne8
  have hne70 := hne8
  have hne81 := hne8
  have hne95 := hne8
  have hne16 := hne8
  have hne41 := hne8
  have hne66 := hne8
  have hne91 := hne8
  refine lv_aload_n hx hb d_M_times_0 rfl (lv_at hl 0 rfl) ?_
  refine va_get (D := z.1) (ci := 3) (v := .long (g.2.2.2.2.1 0)) (C := R_M) (T := F_M) (N := 9) hx hb hts in_M hown hU.2.1 hU.1 0 rfl rfl 5 (by decide) (hts _ k_M_103) (fun _ h9 => h9) rfl d_M_times_1 ?_
  refine lv_topl (fun x1 ex1 => ?_)
  refine lv_lload_n hx hb d_M_times_4 rfl (lv_at hl 1 rfl) ?_
  refine lv_lmul hx hb d_M_times_5 ?_
  refine lv_topl (fun x5 ex5 => ?_)
  refine lv_lload hx hb d_M_times_6 (lv_at hl 5 rfl) ?_
  refine lv_lrem hx hb d_M_times_8 hne8 ?_
  refine lv_topl (fun x8 ex8 => ?_)
  refine lv_aload_n hx hb d_M_times_9 rfl (lv_at hl 0 rfl) ?_
  refine va_get (D := z.1) (ci := 3) (v := .long (g.2.2.2.2.1 1)) (C := R_M) (T := F_M) (N := 9) hx hb hts in_M hown hU.2.1 hU.1 0 rfl rfl 6 (by decide) (hts _ k_M_106) (fun _ h9 => h9) rfl d_M_times_10 ?_
  refine lv_topl (fun x10 ex10 => ?_)
  refine lv_lload hx hb d_M_times_13 (lv_at hl 3 rfl) ?_
  refine lv_lmul hx hb d_M_times_15 ?_
  refine lv_topl (fun x15 ex15 => ?_)
  refine lv_lload hx hb d_M_times_16 (lv_at hl 5 rfl) ?_
  refine lv_lrem hx hb d_M_times_18 hne18 ?_
  refine lv_topl (fun x18 ex18 => ?_)
  refine lv_ladd hx hb d_M_times_19 ?_
  refine lv_topl (fun x19 ex19 => ?_)
  refine lv_lload hx hb d_M_times_20 (lv_at hl 5 rfl) ?_
  refine lv_lrem hx hb d_M_times_22 hne22 ?_
  refine lv_topl (fun x22 ex22 => ?_)
  refine lv_lstore (lv' := [(11, .long x22), (0, .ref (oM z)), (1, .long (lN a)), (3, .long (lN b)), (5, .long (lN c9)), (7, .long (lN e9)), (9, .long (lN M))]) hx hb d_M_times_23 hl (by decide) rfl (fun ls hl => ?_)
  refine lv_aload_n hx hb d_M_times_25 rfl (lv_at hl 1 rfl) ?_
  refine va_get (D := z.1) (ci := 3) (v := .long (g.2.2.2.2.1 0)) (C := R_M) (T := F_M) (N := 9) hx hb hts in_M hown hU.2.1 hU.1 0 rfl rfl 5 (by decide) (hts _ k_M_103) (fun _ h9 => h9) rfl d_M_times_26 ?_
  refine lv_topl (fun x26 ex26 => ?_)
  refine lv_lload_n hx hb d_M_times_29 rfl (lv_at hl 3 rfl) ?_
  refine lv_lmul hx hb d_M_times_30 ?_
  refine lv_topl (fun x30 ex30 => ?_)
  refine lv_lload hx hb d_M_times_31 (lv_at hl 6 rfl) ?_
  refine lv_lrem hx hb d_M_times_33 hne33 ?_
  refine lv_topl (fun x33 ex33 => ?_)
  refine lv_aload_n hx hb d_M_times_34 rfl (lv_at hl 1 rfl) ?_
  refine va_get (D := z.1) (ci := 3) (v := .long (g.2.2.2.2.1 1)) (C := R_M) (T := F_M) (N := 9) hx hb hts in_M hown hU.2.1 hU.1 0 rfl rfl 6 (by decide) (hts _ k_M_106) (fun _ h9 => h9) rfl d_M_times_35 ?_
  refine lv_topl (fun x35 ex35 => ?_)
  refine lv_lload hx hb d_M_times_38 (lv_at hl 5 rfl) ?_
  refine lv_lmul hx hb d_M_times_40 ?_
  refine lv_topl (fun x40 ex40 => ?_)
  refine lv_lload hx hb d_M_times_41 (lv_at hl 6 rfl) ?_
  refine lv_lrem hx hb d_M_times_43 hne43 ?_
  refine lv_topl (fun x43 ex43 => ?_)
  refine lv_ladd hx hb d_M_times_44 ?_
  refine lv_topl (fun x44 ex44 => ?_)
  refine lv_lload hx hb d_M_times_45 (lv_at hl 6 rfl) ?_
  refine lv_lrem hx hb d_M_times_47 hne47 ?_
  refine lv_topl (fun x47 ex47 => ?_)
  refine lv_lstore (lv' := [(13, .long x47), (11, .long x22), (0, .ref (oM z)), (1, .long (lN a)), (3, .long (lN b)), (5, .long (lN c9)), (7, .long (lN e9)), (9, .long (lN M))]) hx hb d_M_times_48 hl (by decide) rfl (fun ls hl => ?_)
  refine lv_aload_n hx hb d_M_times_50 rfl (lv_at hl 2 rfl) ?_
  refine va_get (D := z.1) (ci := 3) (v := .long (g.2.2.2.2.1 2)) (C := R_M) (T := F_M) (N := 9) hx hb hts in_M hown hU.2.1 hU.1 0 rfl rfl 7 (by decide) (hts _ k_M_109) (fun _ h9 => h9) rfl d_M_times_51 ?_
  refine lv_topl (fun x51 ex51 => ?_)
  refine lv_lload_n hx hb d_M_times_54 rfl (lv_at hl 3 rfl) ?_
  refine lv_lmul hx hb d_M_times_55 ?_
  refine lv_topl (fun x55 ex55 => ?_)
  refine lv_lload hx hb d_M_times_56 (lv_at hl 7 rfl) ?_
  refine lv_lrem hx hb d_M_times_58 hne58 ?_
  refine lv_topl (fun x58 ex58 => ?_)
  refine lv_aload_n hx hb d_M_times_59 rfl (lv_at hl 2 rfl) ?_
  refine va_get (D := z.1) (ci := 3) (v := .long (g.2.2.2.2.1 3)) (C := R_M) (T := F_M) (N := 9) hx hb hts in_M hown hU.2.1 hU.1 0 rfl rfl 8 (by decide) (hts _ k_M_112) (fun _ h9 => h9) rfl d_M_times_60 ?_
  refine lv_topl (fun x60 ex60 => ?_)
  refine lv_lload hx hb d_M_times_63 (lv_at hl 5 rfl) ?_
  refine lv_lmul hx hb d_M_times_65 ?_
  refine lv_topl (fun x65 ex65 => ?_)
  refine lv_lload hx hb d_M_times_66 (lv_at hl 7 rfl) ?_
  refine lv_lrem hx hb d_M_times_68 hne68 ?_
  refine lv_topl (fun x68 ex68 => ?_)
  refine lv_ladd hx hb d_M_times_69 ?_
  refine lv_topl (fun x69 ex69 => ?_)
  refine lv_lload hx hb d_M_times_70 (lv_at hl 7 rfl) ?_
  refine lv_lrem hx hb d_M_times_72 hne72 ?_
  refine lv_topl (fun x72 ex72 => ?_)
  refine lv_lstore (lv' := [(15, .long x72), (13, .long x47), (11, .long x22), (0, .ref (oM z)), (1, .long (lN a)), (3, .long (lN b)), (5, .long (lN c9)), (7, .long (lN e9)), (9, .long (lN M))]) hx hb d_M_times_73 hl (by decide) rfl (fun ls hl => ?_)
  refine lv_aload_n hx hb d_M_times_75 rfl (lv_at hl 3 rfl) ?_
  refine va_get (D := z.1) (ci := 3) (v := .long (g.2.2.2.2.1 2)) (C := R_M) (T := F_M) (N := 9) hx hb hts in_M hown hU.2.1 hU.1 0 rfl rfl 7 (by decide) (hts _ k_M_109) (fun _ h9 => h9) rfl d_M_times_76 ?_
  refine lv_topl (fun x76 ex76 => ?_)
  refine lv_lload_n hx hb d_M_times_79 rfl (lv_at hl 5 rfl) ?_
  refine lv_lmul hx hb d_M_times_80 ?_
  refine lv_topl (fun x80 ex80 => ?_)
  refine lv_lload hx hb d_M_times_81 (lv_at hl 8 rfl) ?_
  refine lv_lrem hx hb d_M_times_83 hne83 ?_
  refine lv_topl (fun x83 ex83 => ?_)
  refine lv_aload_n hx hb d_M_times_84 rfl (lv_at hl 3 rfl) ?_
  refine va_get (D := z.1) (ci := 3) (v := .long (g.2.2.2.2.1 3)) (C := R_M) (T := F_M) (N := 9) hx hb hts in_M hown hU.2.1 hU.1 0 rfl rfl 8 (by decide) (hts _ k_M_112) (fun _ h9 => h9) rfl d_M_times_85 ?_
  refine lv_topl (fun x85 ex85 => ?_)
  refine lv_lload hx hb d_M_times_88 (lv_at hl 7 rfl) ?_
  refine lv_lmul hx hb d_M_times_90 ?_
  refine lv_topl (fun x90 ex90 => ?_)
  refine lv_lload hx hb d_M_times_91 (lv_at hl 8 rfl) ?_
  refine lv_lrem hx hb d_M_times_93 hne93 ?_
  refine lv_topl (fun x93 ex93 => ?_)
  refine lv_ladd hx hb d_M_times_94 ?_
  refine lv_topl (fun x94 ex94 => ?_)
  refine lv_lload hx hb d_M_times_95 (lv_at hl 8 rfl) ?_
  refine lv_lrem hx hb d_M_times_97 hne97 ?_
  refine lv_topl (fun x97 ex97 => ?_)
  refine lv_lstore (lv' := [(17, .long x97), (15, .long x72), (13, .long x47), (11, .long x22), (0, .ref (oM z)), (1, .long (lN a)), (3, .long (lN b)), (5, .long (lN c9)), (7, .long (lN e9)), (9, .long (lN M))]) hx hb d_M_times_98 hl (by decide) rfl (fun ls hl => ?_)
  refine lv_aload_n hx hb d_M_times_100 rfl (lv_at hl 4 rfl) ?_
  refine lv_lload hx hb d_M_times_101 (lv_at hl 3 rfl) ?_
  refine mp_X0 hx hb hts hown hU (hts _ k_M_103) d_M_times_103 (fun H locs hU => ?_)
  generalize eg103 : mX g 0 x22 = g103 at hU
  refine lv_aload_n hx hb d_M_times_106 rfl (lv_at hl 4 rfl) ?_
  refine lv_lload hx hb d_M_times_107 (lv_at hl 2 rfl) ?_
  refine mp_X1 hx hb hts hown hU (hts _ k_M_106) d_M_times_109 (fun H locs hU => ?_)
  generalize eg109 : mX g103 1 x47 = g109 at hU
  refine lv_aload_n hx hb d_M_times_112 rfl (lv_at hl 4 rfl) ?_
  refine lv_lload hx hb d_M_times_113 (lv_at hl 1 rfl) ?_
  refine mp_X2 hx hb hts hown hU (hts _ k_M_109) d_M_times_115 (fun H locs hU => ?_)
  generalize eg115 : mX g109 2 x72 = g115 at hU
  refine lv_aload_n hx hb d_M_times_118 rfl (lv_at hl 4 rfl) ?_
  refine lv_lload hx hb d_M_times_119 (lv_at hl 0 rfl) ?_
  refine mp_X3 hx hb hts hown hU (hts _ k_M_112) d_M_times_121 (fun H locs hU => ?_)
  generalize eg121 : mX g115 3 x97 = g121 at hU
  have r8 : x8 = lN (n0 * a % M) := hP n0 a x8 h0 ha (by rw [ex8, ex5, ex1, q0])
  have r18 : x18 = lN (n1 * c9 % M) := hP n1 c9 x18 h1 hc (by rw [ex18, ex15, ex10, q1])
  have r22 : x22 = lN ((n0 * a + n1 * c9) % M) := hQ n0 a n1 c9 x22 (by rw [ex22, ex19, r8, r18])
  have r33 : x33 = lN (n0 * b % M) := hP n0 b x33 h0 hb9 (by rw [ex33, ex30, ex26, q0])
  have r43 : x43 = lN (n1 * e9 % M) := hP n1 e9 x43 h1 he (by rw [ex43, ex40, ex35, q1])
  have r47 : x47 = lN ((n0 * b + n1 * e9) % M) := hQ n0 b n1 e9 x47 (by rw [ex47, ex44, r33, r43])
  have r58 : x58 = lN (n2 * a % M) := hP n2 a x58 h2 ha (by rw [ex58, ex55, ex51, q2])
  have r68 : x68 = lN (n3 * c9 % M) := hP n3 c9 x68 h3 hc (by rw [ex68, ex65, ex60, q3])
  have r72 : x72 = lN ((n2 * a + n3 * c9) % M) := hQ n2 a n3 c9 x72 (by rw [ex72, ex69, r58, r68])
  have r83 : x83 = lN (n2 * b % M) := hP n2 b x83 h2 hb9 (by rw [ex83, ex80, ex76, q2])
  have r93 : x93 = lN (n3 * e9 % M) := hP n3 e9 x93 h3 he (by rw [ex93, ex90, ex85, q3])
  have r97 : x97 = lN ((n2 * b + n3 * e9) % M) := hQ n2 b n3 e9 x97 (by rw [ex97, ex94, r83, r93])
  exact m_vret hx hb hr hlocks hsz hU (by rw [← eg121, ← eg115, ← eg109, ← eg103, r22, r47, r72, r97]) d_M_times_124
  theorem comb_core {Q H R Ri Rj Si Sj x y : Int} (hQ : Q = 2 * H) (hH : 0 < H) (ai bj : Int) (hi : Ri = Si + Q * ai) (hj : Rj = Sj + Q * bj) (h : R = (x * Ri + y * Rj) % Q) (h1 : -H ≤ x * Si + y * Sj) (h2 : x * Si + y * Sj < H) : (if R < H then R else R - Q) = x * Si + y * Sj := by
    have e : x * Ri + y * Rj = (x * Si + y * Sj) + Q * (x * ai + y * bj) := by
      rw [hi, hj, Int.mul_add, Int.mul_add, Int.mul_add]
      have a1 : x * (Q * ai) = Q * (x * ai) := by ac_rfl
      have a2 : y * (Q * bj) = Q * (y * bj) := by ac_rfl
      omega
    rw [e, Int.add_mul_emod_self_left] at h
    generalize x * Si + y * Sj = S at h h1 h2
    rcases Int.lt_or_le S 0 with q | q
    · have e2 : S % Q = S + Q := by
        rw [← Int.add_mul_emod_self_left S Q 1, Int.mul_one]
        exact Int.emod_eq_of_lt (by omega) (by omega)
      rw [h, e2, if_neg (by omega)]
      omega
    · have e2 : S % Q = S := Int.emod_eq_of_lt q (by omega)
      rw [h, e2, if_pos h2]
  theorem HW_pos : 0 < HW := by rw [HW_def]; exact Nat.mul_pos (by decide) (Nat.pow_pos (by decide))
  theorem rv_sv (f : Nat → Int32) (i : Nat) : ∃ a : Int, (rv f i : Int) = sv f i + (WW : Int) * a := by
    unfold sv
    generalize (WW : Int) = Q
    split
    · exact ⟨0, by omega⟩
    · exact ⟨1, by omega⟩
  theorem sv_comb {f F : Nat → Int32} {to i j : Nat} {x y : Int} (h : (rv f to : Int) = (x * (rv F i : Int) + y * (rv F j : Int)) % (WW : Int)) (h1 : -(HW : Int) ≤ x * sv F i + y * sv F j) (h2 : x * sv F i + y * sv F j < (HW : Int)) : sv f to = x * sv F i + y * sv F j := by
    obtain ⟨a, ea⟩ := rv_sv F i
    obtain ⟨b, eb⟩ := rv_sv F j
    have hQ : (WW : Int) = 2 * (HW : Int) := by rw [HW_2]; exact Int.natCast_mul 2 HW
    have hp : (0 : Int) < (HW : Int) := Int.ofNat_lt.mpr HW_pos
    have key := comb_core hQ hp a b ea eb h h1 h2
    rw [← key]
    unfold sv
    by_cases q : rv f to < HW
    · rw [if_pos q, if_pos (Int.ofNat_lt.mpr q)]
    · rw [if_neg q, if_neg (fun w => q (Int.ofNat_lt.mp w))]
  theorem half_core {Q H R R2 : Int} (hQ : Q = 2 * H) (h0 : 0 ≤ R) (h1 : R < Q) (h : R2 = (R + (if H ≤ R then 1 else 0) * Q) / 2) : (if R2 < H then R2 else R2 - Q) = (if R < H then R else R - Q) / 2 := by
    by_cases q : H ≤ R
    · rw [if_pos q] at h
      rw [if_neg (show ¬ R < H by omega), if_neg (show ¬ R2 < H by omega)]
      omega
    · rw [if_neg q] at h
      rw [if_pos (show R < H by omega), if_pos (show R2 < H by omega)]
      omega
  theorem sv_half {f F : Nat → Int32} {i : Nat} (hi : i < 11) (hok : dgOk F) (h : rv f i = (rv F i + (if 32767 < wn (F (1100 * i + 1099)) then 1 else 0) * WW) / 2) : sv f i = sv F i / 2 := by
    have hQ : (WW : Int) = 2 * (HW : Int) := by rw [HW_2]; exact Int.natCast_mul 2 HW
    have hl : (rv F i : Int) < (WW : Int) := Int.ofNat_lt.mpr (rv_lt hi hok)
    have h2 : (rv f i : Int) = ((rv F i : Int) + (if (HW : Int) ≤ (rv F i : Int) then 1 else 0) * (WW : Int)) / 2 := by
      rw [h]
      have ht := top_iff hi hok
      by_cases q : HW ≤ rv F i
      · rw [if_pos (ht.mpr q), if_pos (Int.ofNat_le.mpr q), Nat.one_mul, Int.one_mul]
        rfl
      · rw [if_neg (fun w => q (ht.mp w)), if_neg (fun w => q (Int.ofNat_le.mp w)), Nat.zero_mul, Int.zero_mul]
        rfl
    have key := half_core hQ (Int.natCast_nonneg _) hl h2
    unfold sv
    by_cases q : rv f i < HW
    · rw [if_pos q]; rw [if_pos (Int.ofNat_lt.mpr q)] at key; rw [key]
      by_cases w : rv F i < HW
      · rw [if_pos w, if_pos (Int.ofNat_lt.mpr w)]
      · rw [if_neg w, if_neg (fun v => w (Int.ofNat_lt.mp v))]
    · rw [if_neg q]; rw [if_neg (fun v => q (Int.ofNat_lt.mp v))] at key; rw [key]
      by_cases w : rv F i < HW
      · rw [if_pos w, if_pos (Int.ofNat_lt.mpr w)]
      · rw [if_neg w, if_neg (fun v => w (Int.ofNat_lt.mp v))]
  /-- far above all numbers that come, far below what rows hold -/
  noncomputable def BB : Nat := Classical.choose (⟨2 ^ 16000, rfl⟩ : ∃ n : Nat, n = 2 ^ 16000)
  theorem BB_def : BB = 2 ^ 16000 := Classical.choose_spec (⟨2 ^ 16000, rfl⟩ : ∃ n : Nat, n = 2 ^ 16000)
  theorem BB_HW : 4294967296 * BB ≤ HW := by rw [BB_def, HW_def]; decide +kernel
  theorem BB_MM : 4294967296 * BB ≤ MM := by rw [BB_def]; decide +kernel
  theorem BB_pos : 0 < BB := by rw [BB_def]; exact Nat.pow_pos (by decide)
  theorem tu_bd {t u : Nat} {k : Int} (ht : t < BB) (hu : u < BB) (h1 : -2147483648 ≤ k) (h2 : k ≤ 2147483648) : -(HW : Int) ≤ (t : Int) + k * (u : Int) ∧ (t : Int) + k * (u : Int) < (HW : Int) ∧ -(HW : Int) ≤ k * (u : Int) ∧ k * (u : Int) < (HW : Int) := by
    have e1 : k * (u : Int) ≤ 2147483648 * (u : Int) := Int.mul_le_mul_of_nonneg_right h2 (Int.natCast_nonneg _)
    have e2 : -2147483648 * (u : Int) ≤ k * (u : Int) := Int.mul_le_mul_of_nonneg_right h1 (Int.natCast_nonneg _)
    have hb : (4294967296 : Int) * (BB : Int) ≤ (HW : Int) := by
      have := Int.ofNat_le.mpr BB_HW
      rw [Int.natCast_mul] at this
      exact this
    have h3 : (t : Int) < (BB : Int) := Int.ofNat_lt.mpr ht
    have h4 : (u : Int) < (BB : Int) := Int.ofNat_lt.mpr hu
    generalize (BB : Int) = X at hb h3 h4
    generalize (HW : Int) = Y at hb
    generalize k * (u : Int) = Z at e1 e2
    have h5 : 0 ≤ (u : Int) := Int.natCast_nonneg _
    have h6 : 0 ≤ (t : Int) := Int.natCast_nonneg _
    refine ⟨by omega, by omega, by omega, by omega⟩
set_option maxHeartbeats 4000000 in
set_option maxRecDepth 100000 in
theorem cm_turn (l : Launch) (z : YM) (sz : Nat) (g : SM) {t u : Nat} (ht : t < BB) (hu : u < BB) {a b c9 : Int64} (a1 : -2147483648 ≤ a.toInt) (a2 : a.toInt ≤ 2147483648) (b1 : -2147483648 ≤ b.toInt) (b2 : b.toInt ≤ 2147483648) (c1 : -2147483648 ≤ c9.toInt) (c2 : c9.toInt ≤ 2147483648) (hok : dgOk g.2.2.2.2.2) (h0 : sv g.2.2.2.2.2 0 = (t : Int)) (h1 : sv g.2.2.2.2.2 1 = (u : Int)) : Met l y_M_turn (zw y_M_turn b_M_turn 7 none) { frames := 2, cells := 0, slots := 0, locals := 55 } (va_Pc [.ref (oM z), .long a, .long b, .long c9] (mI z g sz)) (va_Qv (fun g2 => ∃ f, g2 = mF g f ∧ dgOk f ∧ (∀ q, (q < 2200 ∨ 6600 ≤ q) → f q = g.2.2.2.2.2 q) ∧ sv f 2 = ((t : Int) - b.toInt * u) / 2 ∧ sv f 3 = -c9.toInt * u ∧ sv f 4 = a.toInt * u ∧ sv f 5 = ((t : Int) + b.toInt * u) / 2) (mO z sz) (yA z sz)) 0 0 (yA z sz) := by
  refine m_ofW (by decide) (Nat.le_of_ble_eq_true rfl) (fun p e s m below meth c hx hb hr hml hown hts hlocks hname hsz ls hU hl => ?_)
  have hl : lv_has ls 7 [(0, .ref (oM z)), (1, .long a), (3, .long b), (5, .long c9)] := hl
  obtain ⟨F, eF⟩ : ∃ y, y = g.2.2.2.2.2 := ⟨_, rfl⟩
  rw [← eF] at hok h0 h1
  refine lv_aload_n hx hb d_M_turn_0 rfl (lv_at hl 0 rfl) ?_
  refine lv_iconst (v := 2) hx hb d_M_turn_1 (by decide) ?_
  refine lv_lconst (v := 1) hx hb d_M_turn_2 (by decide) ?_
  refine lv_iconst (v := 0) hx hb d_M_turn_3 (by decide) ?_
  refine lv_lload_n hx hb d_M_turn_4 rfl (lv_at hl 2 rfl) ?_
  refine lv_lneg hx hb d_M_turn_5 ?_
  refine lv_topl (fun x5 ex5 => ?_)
  refine lv_iconst (v := 1) hx hb d_M_turn_6 (by decide) ?_
  have t5 : x5.toInt = -b.toInt := by rw [ex5]; exact Jvm.Kit.i64_neg (by omega)
  refine m_callv (m_run (As := [.int 2, .long 1, .int 0, .long x5, .int 1]) (rest := []) hx hb hml hown hts hU (cm_combine l z _ g (to := 2) (i := 0) (j := 1) (by decide) (by decide) (by decide) (x := 1) (y := x5) (by decide) (by decide) (by omega) (by omega) (by rw [← eF]; exact hok)) (w_M_combine_cw hts k_M_69 rfl rfl ⟨Nat.le_of_ble_eq_true rfl, Nat.le_of_ble_eq_true rfl⟩) (m_recv hU) rfl hl.1 rfl (lv_room (Nat.le_of_ble_eq_true rfl)) d_M_turn_7 ⟨Nat.zero_le _, Nat.zero_le _⟩) hU (fun g7 H locs hp hU => ?_)
  obtain ⟨f1, rfl, k1, k2, k3⟩ := hp
  rw [← eF] at k2 k3
  have bd1 := tu_bd ht hu (k := x5.toInt) (by omega) (by omega)
  have s1 := sv_comb k3 (by rw [h0, h1, show (1 : Int64).toInt = 1 from rfl, Int.one_mul]; exact bd1.1) (by rw [h0, h1, show (1 : Int64).toInt = 1 from rfl, Int.one_mul]; exact bd1.2.1)
  rw [h0, h1, show (1 : Int64).toInt = 1 from rfl, Int.one_mul, t5] at s1
  refine lv_aload_n hx hb d_M_turn_10 rfl (lv_at hl 0 rfl) ?_
  refine lv_iconst (v := 2) hx hb d_M_turn_11 (by decide) ?_
  refine m_callv (m_run (As := [.int 2]) (rest := []) hx hb hml hown hts hU (cm_halve l z _ (mF g f1) (i := 2) (by decide) k1) (w_M_halve_cw hts k_M_80 rfl rfl ⟨Nat.le_of_ble_eq_true rfl, Nat.le_of_ble_eq_true rfl⟩) (m_recv hU) rfl hl.1 rfl (lv_room (Nat.le_of_ble_eq_true rfl)) d_M_turn_12 ⟨Nat.zero_le _, Nat.zero_le _⟩) hU (fun g12 H locs hp hU => ?_)
  obtain ⟨f2, rfl, k4, k5, k6⟩ := hp
  have s2 : sv f2 2 = sv f1 2 / 2 := sv_half (by decide) k1 k6
  have k5 : rsm f1 f2 2 := k5
  refine lv_aload_n hx hb d_M_turn_15 rfl (lv_at hl 0 rfl) ?_
  refine lv_iconst (v := 3) hx hb d_M_turn_16 (by decide) ?_
  refine lv_lload hx hb d_M_turn_17 (lv_at hl 3 rfl) ?_
  refine lv_lneg hx hb d_M_turn_19 ?_
  refine lv_topl (fun x19 ex19 => ?_)
  refine lv_iconst (v := 1) hx hb d_M_turn_20 (by decide) ?_
  refine lv_lconst (v := 0) hx hb d_M_turn_21 (by decide) ?_
  refine lv_iconst (v := 1) hx hb d_M_turn_22 (by decide) ?_
  have t19 : x19.toInt = -c9.toInt := by rw [ex19]; exact Jvm.Kit.i64_neg (by omega)
  refine m_callv (m_run (As := [.int 3, .long x19, .int 1, .long 0, .int 1]) (rest := []) hx hb hml hown hts hU (cm_combine l z _ (mF g f2) (to := 3) (i := 1) (j := 1) (by decide) (by decide) (by decide) (x := x19) (y := 0) (by omega) (by omega) (by decide) (by decide) k4) (w_M_combine_cw hts k_M_69 rfl rfl ⟨Nat.le_of_ble_eq_true rfl, Nat.le_of_ble_eq_true rfl⟩) (m_recv hU) rfl hl.1 rfl (lv_room (Nat.le_of_ble_eq_true rfl)) d_M_turn_23 ⟨Nat.zero_le _, Nat.zero_le _⟩) hU (fun g23 H locs hp hU => ?_)
  obtain ⟨f3, rfl, k7, k8, k9⟩ := hp
  have k8 : rsm f2 f3 3 := k8
  have k9 : (rv f3 3 : Int) = (x19.toInt * (rv f2 1 : Int) + (0 : Int64).toInt * (rv f2 1 : Int)) % (WW : Int) := k9
  have u2 : sv f2 1 = (u : Int) := by rw [k5.sv (by decide), k2.sv (by decide), h1]
  have bd3 := tu_bd ht hu (k := x19.toInt) (by omega) (by omega)
  have s3 := sv_comb k9 (by rw [u2, show (0 : Int64).toInt = 0 from rfl, Int.zero_mul, Int.add_zero]; exact bd3.2.2.1) (by rw [u2, show (0 : Int64).toInt = 0 from rfl, Int.zero_mul, Int.add_zero]; exact bd3.2.2.2)
  rw [u2, show (0 : Int64).toInt = 0 from rfl, Int.zero_mul, Int.add_zero, t19] at s3
  refine lv_aload_n hx hb d_M_turn_26 rfl (lv_at hl 0 rfl) ?_
  refine lv_iconst (v := 4) hx hb d_M_turn_27 (by decide) ?_
  refine lv_lload_n hx hb d_M_turn_28 rfl (lv_at hl 1 rfl) ?_
  refine lv_iconst (v := 1) hx hb d_M_turn_29 (by decide) ?_
  refine lv_lconst (v := 0) hx hb d_M_turn_30 (by decide) ?_
  refine lv_iconst (v := 1) hx hb d_M_turn_31 (by decide) ?_
  refine m_callv (m_run (As := [.int 4, .long a, .int 1, .long 0, .int 1]) (rest := []) hx hb hml hown hts hU (cm_combine l z _ (mF g f3) (to := 4) (i := 1) (j := 1) (by decide) (by decide) (by decide) (x := a) (y := 0) a1 a2 (by decide) (by decide) k7) (w_M_combine_cw hts k_M_69 rfl rfl ⟨Nat.le_of_ble_eq_true rfl, Nat.le_of_ble_eq_true rfl⟩) (m_recv hU) rfl hl.1 rfl (lv_room (Nat.le_of_ble_eq_true rfl)) d_M_turn_32 ⟨Nat.zero_le _, Nat.zero_le _⟩) hU (fun g32 H locs hp hU => ?_)
  obtain ⟨f4, rfl, l1, l2, l3⟩ := hp
  have l2 : rsm f3 f4 4 := l2
  have l3 : (rv f4 4 : Int) = (a.toInt * (rv f3 1 : Int) + (0 : Int64).toInt * (rv f3 1 : Int)) % (WW : Int) := l3
  have u3 : sv f3 1 = (u : Int) := by rw [k8.sv (by decide), u2]
  have bd4 := tu_bd ht hu (k := a.toInt) a1 a2
  have s4 := sv_comb l3 (by rw [u3, show (0 : Int64).toInt = 0 from rfl, Int.zero_mul, Int.add_zero]; exact bd4.2.2.1) (by rw [u3, show (0 : Int64).toInt = 0 from rfl, Int.zero_mul, Int.add_zero]; exact bd4.2.2.2)
  rw [u3, show (0 : Int64).toInt = 0 from rfl, Int.zero_mul, Int.add_zero] at s4
  refine lv_aload_n hx hb d_M_turn_35 rfl (lv_at hl 0 rfl) ?_
  refine lv_iconst (v := 5) hx hb d_M_turn_36 (by decide) ?_
  refine lv_lconst (v := 1) hx hb d_M_turn_37 (by decide) ?_
  refine lv_iconst (v := 0) hx hb d_M_turn_38 (by decide) ?_
  refine lv_lload_n hx hb d_M_turn_39 rfl (lv_at hl 2 rfl) ?_
  refine lv_iconst (v := 1) hx hb d_M_turn_40 (by decide) ?_
  refine m_callv (m_run (As := [.int 5, .long 1, .int 0, .long b, .int 1]) (rest := []) hx hb hml hown hts hU (cm_combine l z _ (mF g f4) (to := 5) (i := 0) (j := 1) (by decide) (by decide) (by decide) (x := 1) (y := b) (by decide) (by decide) b1 b2 l1) (w_M_combine_cw hts k_M_69 rfl rfl ⟨Nat.le_of_ble_eq_true rfl, Nat.le_of_ble_eq_true rfl⟩) (m_recv hU) rfl hl.1 rfl (lv_room (Nat.le_of_ble_eq_true rfl)) d_M_turn_41 ⟨Nat.zero_le _, Nat.zero_le _⟩) hU (fun g41 H locs hp hU => ?_)
  obtain ⟨f5, rfl, m1, m2, m3⟩ := hp
  have m2 : rsm f4 f5 5 := m2
  have m3 : (rv f5 5 : Int) = ((1 : Int64).toInt * (rv f4 0 : Int) + b.toInt * (rv f4 1 : Int)) % (WW : Int) := m3
  have t4 : sv f4 0 = (t : Int) := by rw [l2.sv (by decide), k8.sv (by decide), k5.sv (by decide), k2.sv (by decide), h0]
  have u4 : sv f4 1 = (u : Int) := by rw [l2.sv (by decide), u3]
  have bd5 := tu_bd ht hu (k := b.toInt) b1 b2
  have s5 := sv_comb m3 (by rw [t4, u4, show (1 : Int64).toInt = 1 from rfl, Int.one_mul]; exact bd5.1) (by rw [t4, u4, show (1 : Int64).toInt = 1 from rfl, Int.one_mul]; exact bd5.2.1)
  rw [t4, u4, show (1 : Int64).toInt = 1 from rfl, Int.one_mul] at s5
  refine lv_aload_n hx hb d_M_turn_44 rfl (lv_at hl 0 rfl) ?_
  refine lv_iconst (v := 5) hx hb d_M_turn_45 (by decide) ?_
  refine m_callv (m_run (As := [.int 5]) (rest := []) hx hb hml hown hts hU (cm_halve l z _ (mF g f5) (i := 5) (by decide) m1) (w_M_halve_cw hts k_M_80 rfl rfl ⟨Nat.le_of_ble_eq_true rfl, Nat.le_of_ble_eq_true rfl⟩) (m_recv hU) rfl hl.1 rfl (lv_room (Nat.le_of_ble_eq_true rfl)) d_M_turn_46 ⟨Nat.zero_le _, Nat.zero_le _⟩) hU (fun g46 H locs hp hU => ?_)
  obtain ⟨f6, rfl, m4, m5, m6⟩ := hp
  have s6 : sv f6 5 = sv f5 5 / 2 := sv_half (by decide) m1 m6
  have m5 : rsm f5 f6 5 := m5
  exact m_vret hx hb hr hlocks hsz hU ⟨f6, rfl, m4, fun q hq => by rw [← eF, m5 q (by omega), m2 q (by omega), l2 q (by omega), k8 q (by omega), k5 q (by omega), k2 q (by omega)], by rw [m5.sv (by decide), m2.sv (by decide), l2.sv (by decide), k8.sv (by decide), s2, s1, Int.neg_mul, ← Int.sub_eq_add_neg], by rw [m5.sv (by decide), m2.sv (by decide), l2.sv (by decide), s3], by rw [m5.sv (by decide), m2.sv (by decide), s4], by rw [s6, s5]⟩ d_M_turn_49
