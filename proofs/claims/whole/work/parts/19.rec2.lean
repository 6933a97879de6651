/-! UnitFinder$Recurrence: a step, the end -/
theorem mod_stp {Q a b c d L B : Nat} : ((Q * a + c) * L + (Q * b + d) * B) % MM = (Q * ((a * L + b * B) % MM) + (c * L + d * B) % MM) % MM := by
  rw [Nat.add_mod (Q * ((a * L + b * B) % MM)), Nat.mul_mod Q, Nat.mod_mod, ← Nat.mul_mod, Nat.mod_mod, ← Nat.add_mod]
  congr 1
  rw [Nat.add_mul, Nat.add_mul, Nat.mul_add, Nat.mul_assoc, Nat.mul_assoc]
  omega
theorem recL_lt (g : St) : recL g < MM := Nat.mod_lt _ (pB 512)
theorem recB_lt (g : St) : recB g < MM := Nat.mod_lt _ (pB 512)
set_option maxHeartbeats 4000000 in
set_option maxRecDepth 100000 in
theorem c_step (l : Launch) (z : ZZ) (sz : Nat) (g : St) (hok : rOk g) {Q : Nat} (hQ : Q < 1048576) : Met l y_K_step (zw y_K_step b_K_step 6 none) { frames := 2, cells := 0, slots := 0, locals := 53 } (va_Pc [.ref (kA z), .int (nI Q)] (zI z g sz)) (va_Qv (fun g2 => sU g g2 ∧ rOk g2 ∧ recL g2 = (Q * recL g + recB g) % MM ∧ recB g2 = recL g) (zO z sz) (zA z sz)) 0 0 (zA z sz) := by
  refine z_ofW (by decide) (Nat.le_of_ble_eq_true rfl) (fun p e s m below meth c hx hb hr hml hown hts hlocks hname hsz hN ls hU hl => ?_)
  have hl : lv_has ls 6 [(0, .ref (kA z)), (1, .int (nI Q))] := hl
  have hQ1 : ∀ x : Int64, x = (nI Q).toInt64 → uN x = Q := fun x hx => by rw [hx]; exact uN_nI (by omega)
  have E : ∀ (g1 : St) (H : Heap) (locs : List Loc) (ls : Array Slot), rOk g1 → sU g g1 → recL g1 = recL g → recB g1 = recB g → Q * uN (g1.2.2.1 0) + uN (g1.2.2.1 2) < 1073741824 → Q * uN (g1.2.2.1 1) + uN (g1.2.2.1 3) < 1073741824 → Ws z g1 s.heap H locs s → lv_has ls 6 [(0, .ref (kA z)), (1, .int (nI Q))] → W p l e ({ frames := 2, cells := 0, slots := 0, locals := 53 } : Room) s m ([.ref (kA z), .int (nI Q)] : List Value).toArray below meth c H locs 0 0 (MQ below (va_Qv (fun g2 => sU g g2 ∧ rOk g2 ∧ recL g2 = (Q * recL g + recB g) % MM ∧ recB g2 = recL g) (zO z sz) (zA z sz)) ([.ref (kA z), .int (nI Q)] : List Value).toArray s 0 0 (zA z sz)) (F0 m 42 ls []) := by
    intro g1 H locs ls hok1 hs1 hL1 hB1 hk1 hk2 hU hl
    obtain ⟨h8, h9, hb8, hb9, k0, k1, k2, k3⟩ := hok1
    refine lv_iload_n hx hb d_K_step_42 rfl (lv_at hl 1 rfl) ?_
    refine lv_i2l hx hb d_K_step_43 rfl ?_
    refine lv_topl (fun x43 ex43 => ?_)
    refine lv_aload_n hx hb d_K_step_44 rfl (lv_at hl 0 rfl) ?_
    refine va_get (D := z.1) (ci := 1) (v := .long (g1.2.2.1 0)) (C := R_K) (T := F_K) (N := 6) hx hb hts in_K hown hU.2.1 hU.1 1 rfl rfl 2 (by decide) (hts _ k_K_28) (fun _ h9 => h9) rfl d_K_step_45 ?_
    refine lv_topl (fun x45 ex45 => ?_)
    refine lv_lmul hx hb d_K_step_48 ?_
    refine lv_topl (fun x48 ex48 => ?_)
    refine lv_aload_n hx hb d_K_step_49 rfl (lv_at hl 0 rfl) ?_
    refine va_get (D := z.1) (ci := 1) (v := .long (g1.2.2.1 2)) (C := R_K) (T := F_K) (N := 6) hx hb hts in_K hown hU.2.1 hU.1 1 rfl rfl 4 (by decide) (hts _ k_K_32) (fun _ h9 => h9) rfl d_K_step_50 ?_
    refine lv_topl (fun x50 ex50 => ?_)
    refine lv_ladd hx hb d_K_step_53 ?_
    refine lv_topl (fun x53 ex53 => ?_)
    refine lv_lstore_n (lv' := [(2, .long x53), (0, .ref (kA z)), (1, .int (nI Q))]) hx hb d_K_step_54 rfl hl (by decide) rfl (fun ls hl => ?_)
    refine lv_iload_n hx hb d_K_step_55 rfl (lv_at hl 2 rfl) ?_
    refine lv_i2l hx hb d_K_step_56 rfl ?_
    refine lv_topl (fun x56 ex56 => ?_)
    refine lv_aload_n hx hb d_K_step_57 rfl (lv_at hl 1 rfl) ?_
    refine va_get (D := z.1) (ci := 1) (v := .long (g1.2.2.1 1)) (C := R_K) (T := F_K) (N := 6) hx hb hts in_K hown hU.2.1 hU.1 1 rfl rfl 3 (by decide) (hts _ k_K_37) (fun _ h9 => h9) rfl d_K_step_58 ?_
    refine lv_topl (fun x58 ex58 => ?_)
    refine lv_lmul hx hb d_K_step_61 ?_
    refine lv_topl (fun x61 ex61 => ?_)
    refine lv_aload_n hx hb d_K_step_62 rfl (lv_at hl 1 rfl) ?_
    refine va_get (D := z.1) (ci := 1) (v := .long (g1.2.2.1 3)) (C := R_K) (T := F_K) (N := 6) hx hb hts in_K hown hU.2.1 hU.1 1 rfl rfl 5 (by decide) (hts _ k_K_40) (fun _ h9 => h9) rfl d_K_step_63 ?_
    refine lv_topl (fun x63 ex63 => ?_)
    refine lv_ladd hx hb d_K_step_66 ?_
    refine lv_topl (fun x66 ex66 => ?_)
    refine lv_lstore (lv' := [(4, .long x66), (2, .long x53), (0, .ref (kA z)), (1, .int (nI Q))]) hx hb d_K_step_67 hl (by decide) rfl (fun ls hl => ?_)
    refine lv_aload_n hx hb d_K_step_69 rfl (lv_at hl 2 rfl) ?_
    refine lv_aload_n hx hb d_K_step_70 rfl (lv_at hl 2 rfl) ?_
    refine va_get (D := z.1) (ci := 1) (v := .long (g1.2.2.1 0)) (C := R_K) (T := F_K) (N := 6) hx hb hts in_K hown hU.2.1 hU.1 1 rfl rfl 2 (by decide) (hts _ k_K_28) (fun _ h9 => h9) rfl d_K_step_71 ?_
    refine lv_topl (fun x71 ex71 => ?_)
    refine zp_K2 hx hb hts hown hU (hts _ k_K_32) d_K_step_74 (fun H locs hU => ?_)
    generalize eg74 : sK g1 2 x71 = g74 at hU
    refine lv_aload_n hx hb d_K_step_77 rfl (lv_at hl 2 rfl) ?_
    refine lv_aload_n hx hb d_K_step_78 rfl (lv_at hl 2 rfl) ?_
    refine va_get (D := z.1) (ci := 1) (v := .long (g74.2.2.1 1)) (C := R_K) (T := F_K) (N := 6) hx hb hts in_K hown hU.2.1 hU.1 1 rfl rfl 3 (by decide) (hts _ k_K_37) (fun _ h9 => h9) rfl d_K_step_79 ?_
    refine lv_topl (fun x79 ex79 => ?_)
    refine zp_K3 hx hb hts hown hU (hts _ k_K_40) d_K_step_82 (fun H locs hU => ?_)
    generalize eg82 : sK g74 3 x79 = g82 at hU
    refine lv_aload_n hx hb d_K_step_85 rfl (lv_at hl 2 rfl) ?_
    refine lv_lload_n hx hb d_K_step_86 rfl (lv_at hl 1 rfl) ?_
    refine zp_K0 hx hb hts hown hU (hts _ k_K_28) d_K_step_87 (fun H locs hU => ?_)
    generalize eg87 : sK g82 0 x53 = g87 at hU
    refine lv_aload_n hx hb d_K_step_90 rfl (lv_at hl 2 rfl) ?_
    refine lv_lload hx hb d_K_step_91 (lv_at hl 0 rfl) ?_
    refine zp_K1 hx hb hts hown hU (hts _ k_K_37) d_K_step_93 (fun H locs hU => ?_)
    generalize eg93 : sK g87 1 x66 = g93 at hU
    have u43 := hQ1 x43 ex43
    have u56 := hQ1 x56 ex56
    have u48 : uN x48 = Q * uN (g1.2.2.1 0) := by rw [ex48, uN_mul', u43, ex45]; rw [u43, ex45]; omega
    have u53 : uN x53 = Q * uN (g1.2.2.1 0) + uN (g1.2.2.1 2) := by rw [ex53, uN_add', u48, ex50]; rw [u48, ex50]; omega
    have u61 : uN x61 = Q * uN (g1.2.2.1 1) := by rw [ex61, uN_mul', u56, ex58]; rw [u56, ex58]; omega
    have u66 : uN x66 = Q * uN (g1.2.2.1 1) + uN (g1.2.2.1 3) := by rw [ex66, uN_add', u61, ex63]; rw [u61, ex63]; omega
    have e71 : x71 = g1.2.2.1 0 := ex71
    have e79 : x79 = g1.2.2.1 1 := by rw [ex79, ← eg74]; rfl
    have eF : g93 = sK (sK (sK (sK g1 2 (g1.2.2.1 0)) 3 (g1.2.2.1 1)) 0 x53) 1 x66 := by rw [← eg93, ← eg87, ← eg82, ← eg74, e71, e79]
    have q0 : g93.2.2.1 0 = x53 := by rw [eF]; rfl
    have q1 : g93.2.2.1 1 = x66 := by rw [eF]; rfl
    have q2 : g93.2.2.1 2 = g1.2.2.1 0 := by rw [eF]; rfl
    have q3 : g93.2.2.1 3 = g1.2.2.1 1 := by rw [eF]; rfl
    have qb : g93.2.2.2 = g1.2.2.2 := by rw [eF]; rfl
    exact z_vret hx hb hr hlocks hsz hU ⟨hs1.tr (by rw [eF]; exact ⟨rfl, rfl, fun _ _ _ => rfl⟩), ⟨by rw [qb]; exact h8, by rw [qb]; exact h9, by rw [qb]; exact hb8, by rw [qb]; exact hb9, by rw [q0, u53]; exact hk1, by rw [q1, u66]; exact hk2, by rw [q2]; exact k0, by rw [q3]; exact k1⟩, by
      rw [← hL1, ← hB1, recL, qb, q0, q1, u53, u66]
      exact mod_stp, by rw [← hL1, recB, qb, q2, q3]; rfl⟩ d_K_step_96
  obtain ⟨h8, h9, hb8, hb9, k0, k1, k2, k3⟩ := id hok
  have ES : ∀ (H : Heap) (locs : List Loc) (ls : Array Slot), Ws z g s.heap H locs s → lv_has ls 6 [(0, .ref (kA z)), (1, .int (nI Q))] → W p l e ({ frames := 2, cells := 0, slots := 0, locals := 53 } : Room) s m ([.ref (kA z), .int (nI Q)] : List Value).toArray below meth c H locs 0 0 (MQ below (va_Qv (fun g2 => sU g g2 ∧ rOk g2 ∧ recL g2 = (Q * recL g + recB g) % MM ∧ recB g2 = recL g) (zO z sz) (zA z sz)) ([.ref (kA z), .int (nI Q)] : List Value).toArray s 0 0 (zA z sz)) (F0 m 38 ls []) := by
    intro H locs ls hU hl
    refine lv_aload_n hx hb d_K_step_38 rfl (lv_at hl 0 rfl) ?_
    refine z_callv (z_run (As := []) (rest := []) hx hb hml hown hts hU hN (c_settle l z _ g hok) (w_K_settle_cw hts k_K_43 rfl rfl ⟨Nat.le_of_ble_eq_true rfl, Nat.le_of_ble_eq_true rfl⟩) (z_recvK hU) rfl hl.1 rfl (lv_room (Nat.le_of_ble_eq_true rfl)) d_K_step_39 ⟨Nat.zero_le _, Nat.zero_le _⟩) hU (fun g39 H locs hp hU => ?_)
    obtain ⟨a1, a2, a3, a4, a5⟩ := hp
    have o0 : uN (g39.2.2.1 0) = 1 := by rw [a3]; rfl
    have o1 : uN (g39.2.2.1 1) = 0 := by rw [a3]; rfl
    have o2 : uN (g39.2.2.1 2) = 0 := by rw [a3]; rfl
    have o3 : uN (g39.2.2.1 3) = 1 := by rw [a3]; rfl
    exact E g39 _ _ ls a2 a1 (by rw [recL, o0, o1, a4, a5, Nat.one_mul, Nat.zero_mul, Nat.add_zero, Nat.mod_eq_of_lt (recL_lt g)]) (by rw [recB, o2, o3, a4, a5, Nat.one_mul, Nat.zero_mul, Nat.zero_add, Nat.mod_eq_of_lt (recB_lt g)]) (by rw [o0, o2]; omega) (by rw [o1, o3]; omega) hU hl
  have m0 : Q * uN (g.2.2.1 0) ≤ 1048576 * 1073741824 := Nat.mul_le_mul (by omega) (by omega)
  have m1 : Q * uN (g.2.2.1 1) ≤ 1048576 * 1073741824 := Nat.mul_le_mul (by omega) (by omega)
  refine lv_iload_n hx hb d_K_step_0 rfl (lv_at hl 1 rfl) ?_
  refine lv_i2l hx hb d_K_step_1 rfl ?_
  refine lv_topl (fun x1 ex1 => ?_)
  refine lv_aload_n hx hb d_K_step_2 rfl (lv_at hl 0 rfl) ?_
  refine va_get (D := z.1) (ci := 1) (v := .long (g.2.2.1 0)) (C := R_K) (T := F_K) (N := 6) hx hb hts in_K hown hU.2.1 hU.1 1 rfl rfl 2 (by decide) (hts _ k_K_28) (fun _ h9 => h9) rfl d_K_step_3 ?_
  refine lv_topl (fun x3 ex3 => ?_)
  refine lv_lmul hx hb d_K_step_6 ?_
  refine lv_topl (fun x6 ex6 => ?_)
  refine lv_aload_n hx hb d_K_step_7 rfl (lv_at hl 0 rfl) ?_
  refine va_get (D := z.1) (ci := 1) (v := .long (g.2.2.1 2)) (C := R_K) (T := F_K) (N := 6) hx hb hts in_K hown hU.2.1 hU.1 1 rfl rfl 4 (by decide) (hts _ k_K_32) (fun _ h9 => h9) rfl d_K_step_8 ?_
  refine lv_topl (fun x8 ex8 => ?_)
  refine lv_ladd hx hb d_K_step_11 ?_
  refine lv_topl (fun x11 ex11 => ?_)
  refine lv_ldc2 (v := 1073741824) hx hb hown (hts _ k_K_35) d_K_step_12 ?_
  refine W.lcmp hx hb d_K_step_15 ?_
  have u1 := hQ1 x1 ex1
  have u6 : uN x6 = Q * uN (g.2.2.1 0) := by rw [ex6, uN_mul', u1, ex3]; rw [u1, ex3]; omega
  have u11 : uN x11 = Q * uN (g.2.2.1 0) + uN (g.2.2.1 2) := by rw [ex11, uN_add', u6, ex8]; rw [u6, ex8]; omega
  have t11 := uN_int x11
  rw [if_pos (by omega)] at t11
  refine lv_if_ge (tgt := 38) hx hb d_K_step_16 (by decide) (fun c16 => ?_) (fun c16 => ?_)
  · exact ES _ _ ls hU (lv_sub hl [0, 1] rfl)
  · have h16 : Q * uN (g.2.2.1 0) + uN (g.2.2.1 2) < 1073741824 := by
      have q : ¬ (1073741824 : Int64) ≤ x11 := fun q => c16 ((lg_cmp_ge _ _).mpr q)
      rw [Int64.le_iff_toInt_le, show (1073741824 : Int64).toInt = 1073741824 from rfl] at q
      omega
    refine lv_iload_n hx hb d_K_step_19 rfl (lv_at hl 1 rfl) ?_
    refine lv_i2l hx hb d_K_step_20 rfl ?_
    refine lv_topl (fun x20 ex20 => ?_)
    refine lv_aload_n hx hb d_K_step_21 rfl (lv_at hl 0 rfl) ?_
    refine va_get (D := z.1) (ci := 1) (v := .long (g.2.2.1 1)) (C := R_K) (T := F_K) (N := 6) hx hb hts in_K hown hU.2.1 hU.1 1 rfl rfl 3 (by decide) (hts _ k_K_37) (fun _ h9 => h9) rfl d_K_step_22 ?_
    refine lv_topl (fun x22 ex22 => ?_)
    refine lv_lmul hx hb d_K_step_25 ?_
    refine lv_topl (fun x25 ex25 => ?_)
    refine lv_aload_n hx hb d_K_step_26 rfl (lv_at hl 0 rfl) ?_
    refine va_get (D := z.1) (ci := 1) (v := .long (g.2.2.1 3)) (C := R_K) (T := F_K) (N := 6) hx hb hts in_K hown hU.2.1 hU.1 1 rfl rfl 5 (by decide) (hts _ k_K_40) (fun _ h9 => h9) rfl d_K_step_27 ?_
    refine lv_topl (fun x27 ex27 => ?_)
    refine lv_ladd hx hb d_K_step_30 ?_
    refine lv_topl (fun x30 ex30 => ?_)
    refine lv_ldc2 (v := 1073741824) hx hb hown (hts _ k_K_35) d_K_step_31 ?_
    refine W.lcmp hx hb d_K_step_34 ?_
    have u20 := hQ1 x20 ex20
    have u25 : uN x25 = Q * uN (g.2.2.1 1) := by rw [ex25, uN_mul', u20, ex22]; rw [u20, ex22]; omega
    have u30 : uN x30 = Q * uN (g.2.2.1 1) + uN (g.2.2.1 3) := by rw [ex30, uN_add', u25, ex27]; rw [u25, ex27]; omega
    have t30 := uN_int x30
    rw [if_pos (by omega)] at t30
    refine lv_if_lt (tgt := 42) hx hb d_K_step_35 (by decide) (fun c35 => ?_) (fun c35 => ?_)
    · have h35 : Q * uN (g.2.2.1 1) + uN (g.2.2.1 3) < 1073741824 := by
        have q : x30 < (1073741824 : Int64) := (lg_cmp_lt _ _).mp c35
        rw [Int64.lt_iff_toInt_lt, show (1073741824 : Int64).toInt = 1073741824 from rfl] at q
        omega
      exact E g _ _ ls hok (sU.rf g) rfl rfl h16 h35 hU (lv_sub hl [0, 1] rfl)
    · exact ES _ _ ls hU (lv_sub hl [0, 1] rfl)
set_option maxHeartbeats 4000000 in
set_option maxRecDepth 100000 in
theorem c_finish (l : Launch) (z : ZZ) (sz : Nat) (g : St) (hok : rOk g) {A : Nat} (hA : A < 1048576) : Met l y_K_finish (zw y_K_finish b_K_finish 2 none) { frames := 2, cells := 0, slots := 0, locals := 53 } (va_Pc [.ref (kA z), .int (nI A)] (zI z g sz)) (va_Qv (fun g2 => sU g g2 ∧ rOk g2 ∧ bv (g2.2.2.2 8) = recL g ∧ bv (g2.2.2.2 9) = (A * recL g + 2 * recB g) % MM) (zO z sz) (zA z sz)) 0 0 (zA z sz) := by
  refine z_ofW (by decide) (Nat.le_of_ble_eq_true rfl) (fun p e s m below meth c hx hb hr hml hown hts hlocks hname hsz hN ls hU hl => ?_)
  have hl : lv_has ls 2 [(0, .ref (kA z)), (1, .int (nI A))] := hl
  refine lv_aload_n hx hb d_K_finish_0 rfl (lv_at hl 0 rfl) ?_
  refine z_callv (z_run (As := []) (rest := []) hx hb hml hown hts hU hN (c_settle l z _ g hok) (w_K_settle_cw hts k_K_43 rfl rfl ⟨Nat.le_of_ble_eq_true rfl, Nat.le_of_ble_eq_true rfl⟩) (z_recvK hU) rfl hl.1 rfl (lv_room (Nat.le_of_ble_eq_true rfl)) d_K_finish_1 ⟨Nat.zero_le _, Nat.zero_le _⟩) hU (fun g1 H locs hp hU => ?_)
  obtain ⟨a1, ⟨h8, h9, hb8, hb9, k0, k1, k2, k3⟩, a3, a4, a5⟩ := hp
  refine lv_aload_n hx hb d_K_finish_4 rfl (lv_at hl 0 rfl) ?_
  refine lv_iload_n hx hb d_K_finish_5 rfl (lv_at hl 1 rfl) ?_
  refine lv_i2l hx hb d_K_finish_6 rfl ?_
  refine lv_topl (fun x6 ex6 => ?_)
  refine zp_K2 hx hb hts hown hU (hts _ k_K_32) d_K_finish_7 (fun H locs hU => ?_)
  generalize eg7 : sK g1 2 x6 = g7 at hU
  refine lv_aload_n hx hb d_K_finish_10 rfl (lv_at hl 0 rfl) ?_
  refine lv_ldc2 (v := 2) hx hb hown (hts _ k_K_46) d_K_finish_11 ?_
  refine zp_K3 hx hb hts hown hU (hts _ k_K_40) d_K_finish_14 (fun H locs hU => ?_)
  generalize eg14 : sK g7 3 2 = g14 at hU
  refine lv_aload_n hx hb d_K_finish_17 rfl (lv_at hl 0 rfl) ?_
  have u6 : uN x6 = A := by rw [ex6]; exact uN_nI (by omega)
  have eF : g14 = sK (sK g1 2 x6) 3 2 := by rw [← eg14, ← eg7]
  have q0 : g14.2.2.1 0 = 1 := by rw [eF]; show g1.2.2.1 0 = 1; rw [a3]; rfl
  have q1 : g14.2.2.1 1 = 0 := by rw [eF]; show g1.2.2.1 1 = 0; rw [a3]; rfl
  have q2 : g14.2.2.1 2 = x6 := by rw [eF]; rfl
  have q3 : g14.2.2.1 3 = 2 := by rw [eF]; rfl
  have qb : g14.2.2.2 = g1.2.2.2 := by rw [eF]; rfl
  have hok2 : rOk g14 := ⟨by rw [qb]; exact h8, by rw [qb]; exact h9, by rw [qb]; exact hb8, by rw [qb]; exact hb9, by rw [q0]; decide, by rw [q1]; decide, by rw [q2, u6]; omega, by rw [q3]; decide⟩
  refine z_callv (z_run (As := []) (rest := []) hx hb hml hown hts hU hN (c_settle l z _ g14 hok2) (w_K_settle_cw hts k_K_43 rfl rfl ⟨Nat.le_of_ble_eq_true rfl, Nat.le_of_ble_eq_true rfl⟩) (z_recvK hU) rfl hl.1 rfl (lv_room (Nat.le_of_ble_eq_true rfl)) d_K_finish_18 ⟨Nat.zero_le _, Nat.zero_le _⟩) hU (fun g18 H locs hp hU => ?_)
  obtain ⟨s1, s2, s3, s4, s5⟩ := hp
  exact z_vret hx hb hr hlocks hsz hU ⟨(a1.tr (by rw [eF]; exact ⟨rfl, rfl, fun _ _ _ => rfl⟩)).tr s1, s2, by
    rw [s4, recL, q0, q1, qb, a4, a5, show uN 1 = 1 from rfl, show uN 0 = 0 from rfl, Nat.one_mul, Nat.zero_mul, Nat.add_zero, Nat.mod_eq_of_lt (recL_lt g)], by
    rw [s5, recB, q2, q3, qb, a4, a5, u6, show uN 2 = 2 from rfl]⟩ d_K_finish_21
