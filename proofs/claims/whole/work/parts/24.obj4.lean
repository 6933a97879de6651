/-! UnitFinder: copies, the unit above 0, become -/
theorem bOk_eq {b b2 : BS} {n : Nat} (hn : n ≤ 512) (h1 : b2.1 = nI n) (h : b.1 = b2.1) (h2 : b.2.1 = b2.2.1) (h3 : ∀ q, q < n → b.2.2 q = b2.2.2 q) (hok : bOk b2) : bOk b ∧ bv b = bv b2 := by
  obtain ⟨m, hm, hm1, hbel, htop⟩ := hok
  have e : m = n := (nI_eq (by omega) (by omega)).mp (by rw [← hm1, ← h1])
  subst e
  refine ⟨⟨m, hm, h.trans hm1, by rw [h2]; exact hbel, ?_⟩, ?_⟩
  · rcases htop with q | q
    · exact Or.inl q
    · rcases Nat.eq_zero_or_pos m with w | w
      · exact Or.inl w
      · exact Or.inr (by rw [h3 _ (by omega)]; exact q)
  · rw [bv_of hm (h.trans hm1), bv_of hm hm1]
    exact vl_congr h3
set_option maxHeartbeats 4000000 in
set_option maxRecDepth 100000 in
theorem c_copy (l : Launch) (z : ZZ) (sz : Nat) (g : St) {i j : Nat} (hi : i < 10) (hj : j < 10) (hij : j ≠ i) (hok : bOk (g.2.2.2 j)) : Met l y_B_copy (zw y_B_copy b_B_copy 2 none) { frames := 1, cells := 0, slots := 0, locals := 40 } (va_Pc [.ref (oA z i), .ref (oA z j)] (zI z g sz)) (va_Qv (fun g2 => ∃ b, g2 = sG g i b ∧ bOk b ∧ b.2.1 = (g.2.2.2 j).2.1 ∧ bv b = bv (g.2.2.2 j)) (zO z sz) (zA z sz)) 0 0 (zA z sz) := by
  refine z_ofW (by decide) (Nat.le_of_ble_eq_true rfl) (fun p e s m below meth c hx hb hr hml hown hts hlocks hname hsz hN ls hU hl => ?_)
  have hl : lv_has ls 2 [(0, .ref (oA z i)), (1, .ref (oA z j))] := hl
  obtain ⟨n, hn, hn1, hbel, htop⟩ := id hok
  have hbo5 : ∀ v : Int32, v = (g.2.2.2 j).2.1 → (v = 0 ∨ v = 1) := fun v hv => by rw [hv]; exact hbel
  refine lv_aload_n hx hb d_B_copy_0 rfl (lv_at hl 0 rfl) ?_
  refine lv_aload_n hx hb d_B_copy_1 rfl (lv_at hl 1 rfl) ?_
  refine va_get (D := z.1) (ci := 2) (v := .int ((g.2.2.2 j).2.1)) (C := R_B) (T := F_B) (N := 3) hx hb hts in_B hown hU.2.1 hU.1 (2 + 2 * j) (uw_o z g hj) rfl 2 (by decide) (hts _ k_B_15) (fun _ h9 => h9) rfl d_B_copy_2 ?_
  refine lv_topi (fun x2 ex2 => ?_)
  have hbo5 := hbo5 x2 ex2
  refine zp_B hx hb hts hown hU hi (hts _ k_B_15) hbo5 d_B_copy_5 (fun H locs hU => ?_)
  generalize eg5 : sG g i ((g.2.2.2 i).1, x2, (g.2.2.2 i).2.2) = g5 at hU
  refine lv_aload_n hx hb d_B_copy_8 rfl (lv_at hl 0 rfl) ?_
  refine lv_aload_n hx hb d_B_copy_9 rfl (lv_at hl 1 rfl) ?_
  refine va_get (D := z.1) (ci := 2) (v := .int ((g5.2.2.2 j).1)) (C := R_B) (T := F_B) (N := 3) hx hb hts in_B hown hU.2.1 hU.1 (2 + 2 * j) (uw_o z g5 hj) rfl 1 (by decide) (hts _ k_B_23) (fun _ h9 => h9) rfl d_B_copy_10 ?_
  refine lv_topi (fun x10 ex10 => ?_)
  refine zp_L hx hb hts hown hU hi (hts _ k_B_23) d_B_copy_13 (fun H locs hU => ?_)
  generalize eg13 : sG g5 i (x10, (g5.2.2.2 i).2) = g13 at hU
  refine lv_aload_n hx hb d_B_copy_16 rfl (lv_at hl 1 rfl) ?_
  refine va_get (D := z.1) (ci := 2) (v := .ref (rA z j)) (C := R_B) (T := F_B) (N := 3) hx hb hts in_B hown hU.2.1 hU.1 (2 + 2 * j) (uw_o z g13 hj) rfl 0 (by decide) (hts _ k_B_9) (fun _ h9 => h9) rfl d_B_copy_17 ?_
  refine lv_iconst (v := 0) hx hb d_B_copy_20 (by decide) ?_
  refine lv_aload_n hx hb d_B_copy_21 rfl (lv_at hl 0 rfl) ?_
  refine va_get (D := z.1) (ci := 2) (v := .ref (rA z i)) (C := R_B) (T := F_B) (N := 3) hx hb hts in_B hown hU.2.1 hU.1 (2 + 2 * i) (uw_o z g13 hi) rfl 0 (by decide) (hts _ k_B_9) (fun _ h9 => h9) rfl d_B_copy_22 ?_
  refine lv_iconst (v := 0) hx hb d_B_copy_25 (by decide) ?_
  refine lv_aload_n hx hb d_B_copy_26 rfl (lv_at hl 1 rfl) ?_
  refine va_get (D := z.1) (ci := 2) (v := .int ((g13.2.2.2 j).1)) (C := R_B) (T := F_B) (N := 3) hx hb hts in_B hown hU.2.1 hU.1 (2 + 2 * j) (uw_o z g13 hj) rfl 1 (by decide) (hts _ k_B_23) (fun _ h9 => h9) rfl d_B_copy_27 ?_
  refine lv_topi (fun x27 ex27 => ?_)
  have e10 : x10 = nI n := by rw [ex10, ← eg5, sG_n _ _ hij, hn1]
  have e27 : x27 = nI n := by rw [ex27, ← eg13, sG_n _ _ hij, ← eg5, sG_n _ _ hij, hn1]
  have eg : g13 = sG g i (nI n, (g.2.2.2 j).2.1, (g.2.2.2 i).2.2) := by rw [← eg13, ← eg5, e10, ex2, sG_s, sG_sG]
  have ei : g13.2.2.2 i = (nI n, (g.2.2.2 j).2.1, (g.2.2.2 i).2.2) := by rw [eg, sG_s]
  have ej : g13.2.2.2 j = g.2.2.2 j := by rw [eg, sG_n _ _ hij]
  rw [e27]
  refine va_copyi hx hb (hml.trans hl.1.symm) hown (hts _ k_B_27) (hts _ q_acopy_nat) (hts _ q_acopy_st) (hts _ q_acopy_in) hU.2.1 hU.1 hU.2.2.1 hU.2.2.2 (3 + 2 * j) (3 + 2 * i) j i (ty := .int) (uw_w z g13 hj) (uw_w z g13 hi) (zty_a z hj) (zty_a z hi) rfl (by decide) (by decide) (nI_pos (by omega)) (by rw [nI_clamp (by omega)]; exact Nat.le_trans (Nat.le_of_eq (Nat.zero_add n)) hn) (by rw [nI_clamp (by omega)]; exact Nat.le_trans (Nat.le_of_eq (Nat.zero_add n)) hn) (fun _ _ => rfl) (by decide) (by decide) d_B_copy_30 (fun H locs hP hD hS => ?_)
  have e9 := uw_sw z g13 hi (va_cpy (g13.2.2.2 j).2.2 (g13.2.2.2 i).2.2 (0 : Int32).toNatClampNeg (0 : Int32).toNatClampNeg (nI n).toNatClampNeg)
  have hU : Ws z (sW g13 i (va_cpy (g13.2.2.2 j).2.2 (g13.2.2.2 i).2.2 (0 : Int32).toNatClampNeg (0 : Int32).toNatClampNeg (nI n).toNatClampNeg)) s.heap H locs s := ⟨e9 ▸ hP, hU.2.1, e9 ▸ hD, hS⟩
  rw [sW_eq, ei, ej, eg, sG_sG, nI_clamp (by omega)] at hU
  obtain ⟨w1, w2⟩ := bOk_eq (b := (nI n, (g.2.2.2 j).2.1, va_cpy (g.2.2.2 j).2.2 (g.2.2.2 i).2.2 (0 : Int32).toNatClampNeg (0 : Int32).toNatClampNeg n)) hn hn1 hn1.symm rfl (fun q hq => sb_cpy0 hq) hok
  exact z_vret hx hb hr hlocks hsz hU ⟨_, rfl, w1, rfl, w2⟩ d_B_copy_33
  /-- t, u, the two of -4, the ring's length, for D above 0 -/
  def uaT (D : Nat) : Nat := (fB D * (wk D).2.1 + 2 * (wk D).2.2) % MM
  def uA (D : Nat) : Nat × Nat × Nat × Nat × Nat := if (wk D).1 % 2 = 1 then ((uaT D * uaT D % MM + 2) % MM, uaT D * (wk D).2.1 % MM, uaT D, (wk D).2.1, 2 * (wk D).1) else (uaT D, (wk D).2.1, 0, 0, (wk D).1)
  theorem wkS_le (D r : Nat) : ∀ (f b c k L B : Nat), (wkS D r f b c k L B).1 ≤ k + f := by
    intro f
    induction f with
    | zero => intro b c k L B; exact Nat.le_refl _
    | succ f ih =>
      intro b c k L B
      rw [wkS]
      split
      · exact Nat.le_add_right _ _
      · have := ih (nxB r b c) (nxC D r b c) (k + 1) (((b + r) / (2 * c) * L + B) % MM) L
        omega
set_option maxHeartbeats 4000000 in
set_option maxRecDepth 100000 in
theorem c_findUnitAbove (l : Launch) (z : ZZ) (sz : Nat) (g : St) {D : Nat} (hd : dOk D) : Met l y_U_findUnitAbove (zw y_U_findUnitAbove b_U_findUnitAbove 5 none) { frames := 4, cells := 0, slots := 0, locals := 105 } (va_Pc [.ref (mA z), .int (nI D)] (zI z g sz)) (va_Qv (fun g2 => g2.1 = g.1 ∧ g2.2.1 = nI (uA D).2.2.2.2 ∧ nOk g2 (uA D).1 (uA D).2.1 (uA D).2.2.1 (uA D).2.2.2.1) (zO z sz) (zA z sz)) 0 0 (zA z sz) := by
  refine z_ofW (by decide) (Nat.le_of_ble_eq_true rfl) (fun p e s m below meth c hx hb hr hml hown hts hlocks hname hsz hN ls hU hl => ?_)
  have hl : lv_has ls 5 [(0, .ref (mA z)), (1, .int (nI D))] := hl
  have hk1 : (wk D).1 ≤ 1000000 := wkS_le D _ 999999 _ _ 1 1 0
  refine lv_aload_n hx hb d_U_findUnitAbove_0 rfl (lv_at hl 0 rfl) ?_
  refine lv_iload_n hx hb d_U_findUnitAbove_1 rfl (lv_at hl 1 rfl) ?_
  refine z_calli (z_run (As := [.int (nI D)]) (rest := []) hx hb hml hown hts hU hN (c_walkToOne l z _ g hd) (w_U_walkToOne_cw hts k_U_145 rfl rfl ⟨Nat.le_of_ble_eq_true rfl, Nat.le_of_ble_eq_true rfl⟩) (z_recvM hU) rfl hl.1 rfl (lv_room (Nat.le_of_ble_eq_true rfl)) d_U_findUnitAbove_2 ⟨Nat.zero_le _, Nat.zero_le _⟩) hU (fun r2 g2 H locs hp hU => ?_)
  obtain ⟨hs, ⟨w8, w9, wb8, wb9, -⟩, e2, eL, eT⟩ := hp
  have eT : bv (g2.2.2.2 9) = uaT D := eT
  refine lv_istore_n (lv' := [(2, .int r2), (0, .ref (mA z)), (1, .int (nI D))]) hx hb d_U_findUnitAbove_5 rfl hl (by decide) rfl (fun ls hl => ?_)
  refine lv_aload_n hx hb d_U_findUnitAbove_6 rfl (lv_at hl 1 rfl) ?_
  refine va_get (D := z.1) (ci := 0) (v := .ref (kA z)) (C := R_U) (T := F_U) (N := 11) hx hb hts in_U hown hU.2.1 hU.1 0 rfl rfl 8 (by decide) (hts _ k_U_40) (fun _ h9 => h9) rfl d_U_findUnitAbove_7 ?_
  refine va_getN (D := z.1) (ci := 1) (v := .ref (oA z 9)) (C := R_K) (T := F_K) (N := 6) hx hb hts in_K hown hU.2.1 hU.1 1 rfl rfl 1 (by decide) (va_Nw.use rfl hN.2.2.2) (fun _ h9 => h9) rfl d_U_findUnitAbove_10 ?_
  refine lv_astore_n (lv' := [(3, .ref (oA z 9)), (2, .int r2), (0, .ref (mA z)), (1, .int (nI D))]) hx hb d_U_findUnitAbove_13 rfl hl (by decide) rfl (fun ls hl => ?_)
  refine lv_aload_n hx hb d_U_findUnitAbove_14 rfl (lv_at hl 2 rfl) ?_
  refine va_get (D := z.1) (ci := 0) (v := .ref (kA z)) (C := R_U) (T := F_U) (N := 11) hx hb hts in_U hown hU.2.1 hU.1 0 rfl rfl 8 (by decide) (hts _ k_U_40) (fun _ h9 => h9) rfl d_U_findUnitAbove_15 ?_
  refine va_getN (D := z.1) (ci := 1) (v := .ref (oA z 8)) (C := R_K) (T := F_K) (N := 6) hx hb hts in_K hown hU.2.1 hU.1 1 rfl rfl 0 (by decide) (va_Nw.use rfl hN.2.2.1) (fun _ h9 => h9) rfl d_U_findUnitAbove_18 ?_
  refine lv_astore (lv' := [(4, .ref (oA z 8)), (3, .ref (oA z 9)), (2, .int r2), (0, .ref (mA z)), (1, .int (nI D))]) hx hb d_U_findUnitAbove_21 hl (by decide) rfl (fun ls hl => ?_)
  refine lv_iload_n hx hb d_U_findUnitAbove_23 rfl (lv_at hl 2 rfl) ?_
  refine lv_iconst (v := 1) hx hb d_U_findUnitAbove_24 (by decide) ?_
  refine lv_iand hx hb d_U_findUnitAbove_25 ?_
  refine lv_topi (fun x25 ex25 => ?_)
  refine lv_iconst (v := 1) hx hb d_U_findUnitAbove_26 (by decide) ?_
  have e25 : x25.toInt = ((wk D).1 : Int) % 2 := by rw [ex25, e2, ← nI_toInt (n := (wk D).1) (by omega)]; exact Jvm.Kit.i32_mask _ 1 (k := 1) (by decide) (by decide)
  refine lv_icmp_ne (tgt := 84) hx hb d_U_findUnitAbove_27 (by decide) (fun c27 => ?_) (fun c27 => ?_)
  · have h27 : ¬ (wk D).1 % 2 = 1 := fun q => c27 (Int32.toInt_inj.mp (by rw [e25]; show _ = (1 : Int); omega))
    rw [uA, if_neg h27]
    refine lv_aload_n hx hb d_U_findUnitAbove_84 rfl (lv_at hl 3 rfl) ?_
    refine lv_iload_n hx hb d_U_findUnitAbove_85 rfl (lv_at hl 2 rfl) ?_
    refine zp_R hx hb hts hown hU (hts _ k_U_67) d_U_findUnitAbove_86 (fun H locs hU => ?_)
    generalize eg86 : sR g2 r2 = g86 at hU
    refine lv_aload_n hx hb d_U_findUnitAbove_89 rfl (lv_at hl 3 rfl) ?_
    refine va_get (D := z.1) (ci := 0) (v := .ref (oA z 6)) (C := R_U) (T := F_U) (N := 11) hx hb hts in_U hown hU.2.1 hU.1 0 rfl rfl 6 (by decide) (hts _ k_U_31) (fun _ h9 => h9) rfl d_U_findUnitAbove_90 ?_
    refine lv_iconst (v := 0) hx hb d_U_findUnitAbove_93 (by decide) ?_
    refine z_callv (z_run (As := [.int 0]) (rest := []) hx hb hml hown hts hU hN (c_set l z _ g86 (i := 6) (by decide) (v := 0) (by decide)) (w_B_set_cw hts k_U_142 rfl rfl ⟨Nat.le_of_ble_eq_true rfl, Nat.le_of_ble_eq_true rfl⟩) (z_recvB hU (by decide)) rfl hl.1 rfl (lv_room (Nat.le_of_ble_eq_true rfl)) d_U_findUnitAbove_94 ⟨Nat.zero_le _, Nat.zero_le _⟩) hU (fun g94 H locs hp hU => ?_)
    obtain ⟨b6, rfl, p1, p2, p3⟩ := hp
    refine lv_aload_n hx hb d_U_findUnitAbove_97 rfl (lv_at hl 3 rfl) ?_
    refine va_get (D := z.1) (ci := 0) (v := .ref (oA z 7)) (C := R_U) (T := F_U) (N := 11) hx hb hts in_U hown hU.2.1 hU.1 0 rfl rfl 7 (by decide) (hts _ k_U_34) (fun _ h9 => h9) rfl d_U_findUnitAbove_98 ?_
    refine lv_iconst (v := 0) hx hb d_U_findUnitAbove_101 (by decide) ?_
    refine z_callv (z_run (As := [.int 0]) (rest := []) hx hb hml hown hts hU hN (c_set l z _ (sG g86 6 b6) (i := 7) (by decide) (v := 0) (by decide)) (w_B_set_cw hts k_U_142 rfl rfl ⟨Nat.le_of_ble_eq_true rfl, Nat.le_of_ble_eq_true rfl⟩) (z_recvB hU (by decide)) rfl hl.1 rfl (lv_room (Nat.le_of_ble_eq_true rfl)) d_U_findUnitAbove_102 ⟨Nat.zero_le _, Nat.zero_le _⟩) hU (fun g102 H locs hp hU => ?_)
    obtain ⟨b7, rfl, q1, q2, q3⟩ := hp
    refine lv_aload_n hx hb d_U_findUnitAbove_105 rfl (lv_at hl 3 rfl) ?_
    refine va_get (D := z.1) (ci := 0) (v := .ref (oA z 0)) (C := R_U) (T := F_U) (N := 11) hx hb hts in_U hown hU.2.1 hU.1 0 rfl rfl 0 (by decide) (hts _ k_U_10) (fun _ h9 => h9) rfl d_U_findUnitAbove_106 ?_
    refine lv_aload_n hx hb d_U_findUnitAbove_109 rfl (lv_at hl 1 rfl) ?_
    have v9 : (sG (sG g86 6 b6) 7 b7).2.2.2 9 = g2.2.2.2 9 := by rw [sG_n _ _ (by decide), sG_n _ _ (by decide), ← eg86]; rfl
    refine z_callv (z_run (As := [.ref (oA z 9)]) (rest := []) hx hb hml hown hts hU hN (c_copy l z _ (sG (sG g86 6 b6) 7 b7) (i := 0) (j := 9) (by decide) (by decide) (by decide) (by rw [v9]; exact w9)) (w_B_copy_cw hts k_U_154 rfl rfl ⟨Nat.le_of_ble_eq_true rfl, Nat.le_of_ble_eq_true rfl⟩) (z_recvB hU (by decide)) rfl hl.1 rfl (lv_room (Nat.le_of_ble_eq_true rfl)) d_U_findUnitAbove_110 ⟨Nat.zero_le _, Nat.zero_le _⟩) hU (fun g110 H locs hp hU => ?_)
    obtain ⟨b0, rfl, r1, r3, r4⟩ := hp
    rw [v9] at r3 r4
    refine lv_aload_n hx hb d_U_findUnitAbove_113 rfl (lv_at hl 3 rfl) ?_
    refine va_get (D := z.1) (ci := 0) (v := .ref (oA z 1)) (C := R_U) (T := F_U) (N := 11) hx hb hts in_U hown hU.2.1 hU.1 0 rfl rfl 1 (by decide) (hts _ k_U_16) (fun _ h9 => h9) rfl d_U_findUnitAbove_114 ?_
    refine lv_aload hx hb d_U_findUnitAbove_117 (lv_at hl 0 rfl) ?_
    have v8 : (sG (sG (sG g86 6 b6) 7 b7) 0 b0).2.2.2 8 = g2.2.2.2 8 := by rw [sG_n _ _ (by decide), sG_n _ _ (by decide), sG_n _ _ (by decide), ← eg86]; rfl
    refine z_callv (z_run (As := [.ref (oA z 8)]) (rest := []) hx hb hml hown hts hU hN (c_copy l z _ (sG (sG (sG g86 6 b6) 7 b7) 0 b0) (i := 1) (j := 8) (by decide) (by decide) (by decide) (by rw [v8]; exact w8)) (w_B_copy_cw hts k_U_154 rfl rfl ⟨Nat.le_of_ble_eq_true rfl, Nat.le_of_ble_eq_true rfl⟩) (z_recvB hU (by decide)) rfl hl.1 rfl (lv_room (Nat.le_of_ble_eq_true rfl)) d_U_findUnitAbove_119 ⟨Nat.zero_le _, Nat.zero_le _⟩) hU (fun g119 H locs hp hU => ?_)
    obtain ⟨b1, rfl, s1, s3, s4⟩ := hp
    rw [v8] at s3 s4
    exact z_vret hx hb hr hlocks hsz hU ⟨by rw [← hs.1, ← eg86]; rfl, by rw [← e2, ← eg86]; rfl, ⟨by rw [sG_n _ _ (by decide), sG_s]; exact r1, by rw [sG_n _ _ (by decide), sG_s, r3, wb9], by rw [sG_n _ _ (by decide), sG_s, r4, eT]⟩, ⟨by rw [sG_s]; exact s1, by rw [sG_s, s3, wb8], by rw [sG_s, s4, eL]⟩, ⟨by rw [sG_n _ _ (by decide), sG_n _ _ (by decide), sG_n _ _ (by decide), sG_s]; exact p1, by rw [sG_n _ _ (by decide), sG_n _ _ (by decide), sG_n _ _ (by decide), sG_s]; exact p2, by rw [sG_n _ _ (by decide), sG_n _ _ (by decide), sG_n _ _ (by decide), sG_s]; exact p3⟩, ⟨by rw [sG_n _ _ (by decide), sG_n _ _ (by decide), sG_s]; exact q1, by rw [sG_n _ _ (by decide), sG_n _ _ (by decide), sG_s]; exact q2, by rw [sG_n _ _ (by decide), sG_n _ _ (by decide), sG_s]; exact q3⟩⟩ d_U_findUnitAbove_122
  · have h27 : (wk D).1 % 2 = 1 := by
      have q : x25.toInt = (1 : Int) := by rw [c27]; rfl
      rw [e25] at q
      omega
    rw [uA, if_pos h27]
    refine lv_aload_n hx hb d_U_findUnitAbove_30 rfl (lv_at hl 3 rfl) ?_
    refine lv_iconst (v := 2) hx hb d_U_findUnitAbove_31 (by decide) ?_
    refine lv_iload_n hx hb d_U_findUnitAbove_32 rfl (lv_at hl 2 rfl) ?_
    refine lv_imul hx hb d_U_findUnitAbove_33 ?_
    refine lv_topi (fun x33 ex33 => ?_)
    refine zp_R hx hb hts hown hU (hts _ k_U_67) d_U_findUnitAbove_34 (fun H locs hU => ?_)
    generalize eg34 : sR g2 x33 = g34 at hU
    refine lv_aload_n hx hb d_U_findUnitAbove_37 rfl (lv_at hl 3 rfl) ?_
    refine va_get (D := z.1) (ci := 0) (v := .ref (oA z 6)) (C := R_U) (T := F_U) (N := 11) hx hb hts in_U hown hU.2.1 hU.1 0 rfl rfl 6 (by decide) (hts _ k_U_31) (fun _ h9 => h9) rfl d_U_findUnitAbove_38 ?_
    refine lv_aload_n hx hb d_U_findUnitAbove_41 rfl (lv_at hl 1 rfl) ?_
    have e33 : x33 = nI (2 * (wk D).1) := by rw [ex33, e2]; exact pk_mul 2 _
    have v9 : g34.2.2.2 9 = g2.2.2.2 9 := by rw [← eg34]; rfl
    refine z_callv (z_run (As := [.ref (oA z 9)]) (rest := []) hx hb hml hown hts hU hN (c_copy l z _ g34 (i := 6) (j := 9) (by decide) (by decide) (by decide) (by rw [v9]; exact w9)) (w_B_copy_cw hts k_U_154 rfl rfl ⟨Nat.le_of_ble_eq_true rfl, Nat.le_of_ble_eq_true rfl⟩) (z_recvB hU (by decide)) rfl hl.1 rfl (lv_room (Nat.le_of_ble_eq_true rfl)) d_U_findUnitAbove_42 ⟨Nat.zero_le _, Nat.zero_le _⟩) hU (fun g42 H locs hp hU => ?_)
    obtain ⟨b6, rfl, p1, p2, p3⟩ := hp
    rw [v9] at p2 p3
    refine lv_aload_n hx hb d_U_findUnitAbove_45 rfl (lv_at hl 3 rfl) ?_
    refine va_get (D := z.1) (ci := 0) (v := .ref (oA z 7)) (C := R_U) (T := F_U) (N := 11) hx hb hts in_U hown hU.2.1 hU.1 0 rfl rfl 7 (by decide) (hts _ k_U_34) (fun _ h9 => h9) rfl d_U_findUnitAbove_46 ?_
    refine lv_aload hx hb d_U_findUnitAbove_49 (lv_at hl 0 rfl) ?_
    have v8 : (sG g34 6 b6).2.2.2 8 = g2.2.2.2 8 := by rw [sG_n _ _ (by decide), ← eg34]; rfl
    refine z_callv (z_run (As := [.ref (oA z 8)]) (rest := []) hx hb hml hown hts hU hN (c_copy l z _ (sG g34 6 b6) (i := 7) (j := 8) (by decide) (by decide) (by decide) (by rw [v8]; exact w8)) (w_B_copy_cw hts k_U_154 rfl rfl ⟨Nat.le_of_ble_eq_true rfl, Nat.le_of_ble_eq_true rfl⟩) (z_recvB hU (by decide)) rfl hl.1 rfl (lv_room (Nat.le_of_ble_eq_true rfl)) d_U_findUnitAbove_51 ⟨Nat.zero_le _, Nat.zero_le _⟩) hU (fun g51 H locs hp hU => ?_)
    obtain ⟨b7, rfl, q1, q2, q3⟩ := hp
    rw [v8] at q2 q3
    refine lv_aload_n hx hb d_U_findUnitAbove_54 rfl (lv_at hl 3 rfl) ?_
    refine va_get (D := z.1) (ci := 0) (v := .ref (oA z 0)) (C := R_U) (T := F_U) (N := 11) hx hb hts in_U hown hU.2.1 hU.1 0 rfl rfl 0 (by decide) (hts _ k_U_10) (fun _ h9 => h9) rfl d_U_findUnitAbove_55 ?_
    refine lv_aload_n hx hb d_U_findUnitAbove_58 rfl (lv_at hl 1 rfl) ?_
    refine lv_aload_n hx hb d_U_findUnitAbove_59 rfl (lv_at hl 1 rfl) ?_
    have v9 : (sG (sG g34 6 b6) 7 b7).2.2.2 9 = g2.2.2.2 9 := by rw [sG_n _ _ (by decide), sG_n _ _ (by decide), ← eg34]; rfl
    refine z_callv (z_run (As := [.ref (oA z 9), .ref (oA z 9)]) (rest := []) hx hb hml hown hts hU hN (c_setProduct l z _ (sG (sG g34 6 b6) 7 b7) (i := 0) (j := 9) (k := 9) (by decide) (by decide) (by decide) (by decide) (by decide) (by rw [v9]; exact w9) (by rw [v9]; exact w9)) (w_B_setProduct_cw hts k_U_158 rfl rfl ⟨Nat.le_of_ble_eq_true rfl, Nat.le_of_ble_eq_true rfl⟩) (z_recvB hU (by decide)) rfl hl.1 rfl (lv_room (Nat.le_of_ble_eq_true rfl)) d_U_findUnitAbove_60 ⟨Nat.zero_le _, Nat.zero_le _⟩) hU (fun g60 H locs hp hU => ?_)
    obtain ⟨b0, rfl, r1, r2, r3⟩ := hp
    rw [v9, if_pos rfl] at r2
    rw [v9, eT] at r3
    refine lv_aload_n hx hb d_U_findUnitAbove_63 rfl (lv_at hl 3 rfl) ?_
    refine va_get (D := z.1) (ci := 0) (v := .ref (oA z 0)) (C := R_U) (T := F_U) (N := 11) hx hb hts in_U hown hU.2.1 hU.1 0 rfl rfl 0 (by decide) (hts _ k_U_10) (fun _ h9 => h9) rfl d_U_findUnitAbove_64 ?_
    refine lv_iconst (v := 2) hx hb d_U_findUnitAbove_67 (by decide) ?_
    refine z_callv (z_run (As := [.int 2]) (rest := []) hx hb hml hown hts hU hN (c_addSmall l z _ (sG (sG (sG g34 6 b6) 7 b7) 0 b0) (i := 0) (by decide) (by rw [sG_s]; exact r1) (v := 2) (by decide)) (w_B_addSmall_cw hts k_U_162 rfl rfl ⟨Nat.le_of_ble_eq_true rfl, Nat.le_of_ble_eq_true rfl⟩) (z_recvB hU (by decide)) rfl hl.1 rfl (lv_room (Nat.le_of_ble_eq_true rfl)) d_U_findUnitAbove_68 ⟨Nat.zero_le _, Nat.zero_le _⟩) hU (fun g68 H locs hp hU => ?_)
    obtain ⟨b01, rfl, t1, t2, t3⟩ := hp
    rw [sG_s, r2] at t2
    rw [sG_s, r3] at t3
    rw [sG_sG] at hU
    refine lv_aload_n hx hb d_U_findUnitAbove_71 rfl (lv_at hl 3 rfl) ?_
    refine va_get (D := z.1) (ci := 0) (v := .ref (oA z 1)) (C := R_U) (T := F_U) (N := 11) hx hb hts in_U hown hU.2.1 hU.1 0 rfl rfl 1 (by decide) (hts _ k_U_16) (fun _ h9 => h9) rfl d_U_findUnitAbove_72 ?_
    refine lv_aload_n hx hb d_U_findUnitAbove_75 rfl (lv_at hl 1 rfl) ?_
    refine lv_aload hx hb d_U_findUnitAbove_76 (lv_at hl 0 rfl) ?_
    have v9 : (sG (sG (sG g34 6 b6) 7 b7) 0 b01).2.2.2 9 = g2.2.2.2 9 := by rw [sG_n _ _ (by decide), sG_n _ _ (by decide), sG_n _ _ (by decide), ← eg34]; rfl
    have v8 : (sG (sG (sG g34 6 b6) 7 b7) 0 b01).2.2.2 8 = g2.2.2.2 8 := by rw [sG_n _ _ (by decide), sG_n _ _ (by decide), sG_n _ _ (by decide), ← eg34]; rfl
    refine z_callv (z_run (As := [.ref (oA z 9), .ref (oA z 8)]) (rest := []) hx hb hml hown hts hU hN (c_setProduct l z _ (sG (sG (sG g34 6 b6) 7 b7) 0 b01) (i := 1) (j := 9) (k := 8) (by decide) (by decide) (by decide) (by decide) (by decide) (by rw [v9]; exact w9) (by rw [v8]; exact w8)) (w_B_setProduct_cw hts k_U_158 rfl rfl ⟨Nat.le_of_ble_eq_true rfl, Nat.le_of_ble_eq_true rfl⟩) (z_recvB hU (by decide)) rfl hl.1 rfl (lv_room (Nat.le_of_ble_eq_true rfl)) d_U_findUnitAbove_78 ⟨Nat.zero_le _, Nat.zero_le _⟩) hU (fun g78 H locs hp hU => ?_)
    obtain ⟨b1, rfl, s1, s2, s3⟩ := hp
    rw [v9, v8, wb8, wb9, if_pos rfl] at s2
    rw [v9, v8, eT, eL] at s3
    refine lv_goto (tgt := 122) hx hb d_U_findUnitAbove_81 (by decide) ?_
    exact z_vret hx hb hr hlocks hsz hU ⟨by rw [← hs.1, ← eg34]; rfl, by rw [← e33, ← eg34]; rfl, ⟨by rw [sG_n _ _ (by decide), sG_s]; exact t1, by rw [sG_n _ _ (by decide), sG_s, t2], by rw [sG_n _ _ (by decide), sG_s, t3]⟩, ⟨by rw [sG_s]; exact s1, by rw [sG_s, s2], by rw [sG_s, s3]⟩, ⟨by rw [sG_n _ _ (by decide), sG_n _ _ (by decide), sG_n _ _ (by decide), sG_s]; exact p1, by rw [sG_n _ _ (by decide), sG_n _ _ (by decide), sG_n _ _ (by decide), sG_s, p2, wb9], by rw [sG_n _ _ (by decide), sG_n _ _ (by decide), sG_n _ _ (by decide), sG_s, p3, eT]⟩, ⟨by rw [sG_n _ _ (by decide), sG_n _ _ (by decide), sG_s]; exact q1, by rw [sG_n _ _ (by decide), sG_n _ _ (by decide), sG_s, q2, wb8], by rw [sG_n _ _ (by decide), sG_n _ _ (by decide), sG_s, q3, eL]⟩⟩ d_U_findUnitAbove_122
