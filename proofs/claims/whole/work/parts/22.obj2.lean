/-! UnitFinder: the units -/
/-- numbers 0, 1, 6, 7 -/
def nOk (g : St) (t u a b : Nat) : Prop := (bOk (g.2.2.2 0) ∧ (g.2.2.2 0).2.1 = 0 ∧ bv (g.2.2.2 0) = t) ∧ (bOk (g.2.2.2 1) ∧ (g.2.2.2 1).2.1 = 0 ∧ bv (g.2.2.2 1) = u) ∧ (bOk (g.2.2.2 6) ∧ (g.2.2.2 6).2.1 = 0 ∧ bv (g.2.2.2 6) = a) ∧ (bOk (g.2.2.2 7) ∧ (g.2.2.2 7).2.1 = 0 ∧ bv (g.2.2.2 7) = b)
def tB (d : Int) : Nat := if d = -3 then 1 else if d = -4 then 0 else 2
def uB (d : Int) : Nat := if d < -4 then 0 else 1
set_option maxHeartbeats 4000000 in
set_option maxRecDepth 100000 in
theorem c_setUnitBelow (l : Launch) (z : ZZ) (sz : Nat) (g : St) {d : Int32} : Met l y_U_setUnitBelow (zw y_U_setUnitBelow b_U_setUnitBelow 2 none) { frames := 2, cells := 0, slots := 0, locals := 44 } (va_Pc [.ref (mA z), .int d] (zI z g sz)) (va_Qv (fun g2 => g2.1 = g.1 ∧ g2.2.1 = 0 ∧ nOk g2 (tB d.toInt) (uB d.toInt) 0 0) (zO z sz) (zA z sz)) 0 0 (zA z sz) := by
  refine z_ofW (by decide) (Nat.le_of_ble_eq_true rfl) (fun p e s m below meth c hx hb hr hml hown hts hlocks hname hsz hN ls hU hl => ?_)
  have hl : lv_has ls 2 [(0, .ref (mA z)), (1, .int d)] := hl
  have E : ∀ (v : Nat) (g1 : St) (H : Heap) (locs : List Loc) (ls : Array Slot), v < 3 → v = tB d.toInt → g1.1 = g.1 → g1.2.1 = 0 → (bOk (g1.2.2.2 1) ∧ (g1.2.2.2 1).2.1 = 0 ∧ bv (g1.2.2.2 1) = uB d.toInt) ∧ (bOk (g1.2.2.2 6) ∧ (g1.2.2.2 6).2.1 = 0 ∧ bv (g1.2.2.2 6) = 0) ∧ (bOk (g1.2.2.2 7) ∧ (g1.2.2.2 7).2.1 = 0 ∧ bv (g1.2.2.2 7) = 0) → Ws z g1 s.heap H locs s → lv_has ls 2 [(0, .ref (mA z)), (1, .int d)] → W p l e ({ frames := 2, cells := 0, slots := 0, locals := 44 } : Room) s m ([.ref (mA z), .int d] : List Value).toArray below meth c H locs 0 0 (MQ below (va_Qv (fun g2 => g2.1 = g.1 ∧ g2.2.1 = 0 ∧ nOk g2 (tB d.toInt) (uB d.toInt) 0 0) (zO z sz) (zA z sz)) ([.ref (mA z), .int d] : List Value).toArray s 0 0 (zA z sz)) (F0 m 71 ls [.int (nI v), .ref (oA z 0)]) := by
    intro v g1 H locs ls hv3 hv q1 q2 q3 hU hl
    refine z_callv (z_run (As := [.int (nI v)]) (rest := []) hx hb hml hown hts hU hN (c_set l z _ g1 (i := 0) (by decide) (v := v) (by omega)) (w_B_set_cw hts k_U_142 rfl rfl ⟨Nat.le_of_ble_eq_true rfl, Nat.le_of_ble_eq_true rfl⟩) (z_recvB hU (by decide)) rfl hl.1 rfl (lv_room (Nat.le_of_ble_eq_true rfl)) d_U_setUnitBelow_71 ⟨Nat.zero_le _, Nat.zero_le _⟩) hU (fun g71 H locs hp hU => ?_)
    obtain ⟨b0, rfl, k1, k2, k3⟩ := hp
    exact z_vret hx hb hr hlocks hsz hU ⟨q1, q2, ⟨by rw [sG_s]; exact k1, by rw [sG_s]; exact k2, by rw [sG_s, k3, hv]⟩, by rw [sG_n _ _ (by decide)]; exact q3.1, by rw [sG_n _ _ (by decide)]; exact q3.2.1, by rw [sG_n _ _ (by decide)]; exact q3.2.2⟩ d_U_setUnitBelow_74
  have E36 : ∀ (v : Nat) (g1 : St) (H : Heap) (locs : List Loc) (ls : Array Slot), v < 2 → v = uB d.toInt → g1.1 = g.1 → g1.2.1 = 0 → (bOk (g1.2.2.2 6) ∧ (g1.2.2.2 6).2.1 = 0 ∧ bv (g1.2.2.2 6) = 0) ∧ (bOk (g1.2.2.2 7) ∧ (g1.2.2.2 7).2.1 = 0 ∧ bv (g1.2.2.2 7) = 0) → Ws z g1 s.heap H locs s → lv_has ls 2 [(0, .ref (mA z)), (1, .int d)] → W p l e ({ frames := 2, cells := 0, slots := 0, locals := 44 } : Room) s m ([.ref (mA z), .int d] : List Value).toArray below meth c H locs 0 0 (MQ below (va_Qv (fun g2 => g2.1 = g.1 ∧ g2.2.1 = 0 ∧ nOk g2 (tB d.toInt) (uB d.toInt) 0 0) (zO z sz) (zA z sz)) ([.ref (mA z), .int d] : List Value).toArray s 0 0 (zA z sz)) (F0 m 36 ls [.int (nI v), .ref (oA z 1)]) := by
    intro v g1 H locs ls hv3 hv q1 q2 q3 hU hl
    refine z_callv (z_run (As := [.int (nI v)]) (rest := []) hx hb hml hown hts hU hN (c_set l z _ g1 (i := 1) (by decide) (v := v) (by omega)) (w_B_set_cw hts k_U_142 rfl rfl ⟨Nat.le_of_ble_eq_true rfl, Nat.le_of_ble_eq_true rfl⟩) (z_recvB hU (by decide)) rfl hl.1 rfl (lv_room (Nat.le_of_ble_eq_true rfl)) d_U_setUnitBelow_36 ⟨Nat.zero_le _, Nat.zero_le _⟩) hU (fun g36 H locs hp hU => ?_)
    obtain ⟨b1, rfl, k1, k2, k3⟩ := hp
    have q4 : (bOk ((sG g1 1 b1).2.2.2 1) ∧ ((sG g1 1 b1).2.2.2 1).2.1 = 0 ∧ bv ((sG g1 1 b1).2.2.2 1) = uB d.toInt) ∧ (bOk ((sG g1 1 b1).2.2.2 6) ∧ ((sG g1 1 b1).2.2.2 6).2.1 = 0 ∧ bv ((sG g1 1 b1).2.2.2 6) = 0) ∧ (bOk ((sG g1 1 b1).2.2.2 7) ∧ ((sG g1 1 b1).2.2.2 7).2.1 = 0 ∧ bv ((sG g1 1 b1).2.2.2 7) = 0) := ⟨by rw [sG_s]; exact ⟨k1, k2, k3.trans hv⟩, by rw [sG_n _ _ (by decide)]; exact q3.1, by rw [sG_n _ _ (by decide)]; exact q3.2⟩
    refine lv_iload_n hx hb d_U_setUnitBelow_39 rfl (lv_at hl 1 rfl) ?_
    refine lv_bipush (v := (-3)) hx hb d_U_setUnitBelow_40 (by decide) ?_
    refine lv_icmp_ne (tgt := 56) hx hb d_U_setUnitBelow_42 (by decide) (fun c42 => ?_) (fun c42 => ?_)
    · have h42 : ¬ d.toInt = -3 := fun q => c42 (Int32.toInt_inj.mp q)
      refine lv_aload_n hx hb d_U_setUnitBelow_56 rfl (lv_at hl 0 rfl) ?_
      refine va_get (D := z.1) (ci := 0) (v := .ref (oA z 0)) (C := R_U) (T := F_U) (N := 11) hx hb hts in_U hown hU.2.1 hU.1 0 rfl rfl 0 (by decide) (hts _ k_U_10) (fun _ h9 => h9) rfl d_U_setUnitBelow_57 ?_
      refine lv_iload_n hx hb d_U_setUnitBelow_60 rfl (lv_at hl 1 rfl) ?_
      refine lv_bipush (v := (-4)) hx hb d_U_setUnitBelow_61 (by decide) ?_
      refine lv_icmp_ne (tgt := 70) hx hb d_U_setUnitBelow_63 (by decide) (fun c63 => ?_) (fun c63 => ?_)
      · have h63 : ¬ d.toInt = -4 := fun q => c63 (Int32.toInt_inj.mp q)
        refine lv_iconst (v := 2) hx hb d_U_setUnitBelow_70 (by decide) ?_
        exact E 2 (sG g1 1 b1) _ _ ls (by decide) (by rw [tB, if_neg h42, if_neg h63]) q1 q2 q4 hU (lv_sub hl [0, 1] rfl)
      · have h63 : d.toInt = -4 := by rw [c63]; rfl
        refine lv_iconst (v := 0) hx hb d_U_setUnitBelow_66 (by decide) ?_
        refine lv_goto (tgt := 71) hx hb d_U_setUnitBelow_67 (by decide) ?_
        exact E 0 (sG g1 1 b1) _ _ ls (by decide) (by rw [tB, if_neg h42, if_pos h63]) q1 q2 q4 hU (lv_sub hl [0, 1] rfl)
    · have h42 : d.toInt = -3 := by rw [c42]; rfl
      refine lv_aload_n hx hb d_U_setUnitBelow_45 rfl (lv_at hl 0 rfl) ?_
      refine va_get (D := z.1) (ci := 0) (v := .ref (oA z 0)) (C := R_U) (T := F_U) (N := 11) hx hb hts in_U hown hU.2.1 hU.1 0 rfl rfl 0 (by decide) (hts _ k_U_10) (fun _ h9 => h9) rfl d_U_setUnitBelow_46 ?_
      refine lv_iconst (v := 1) hx hb d_U_setUnitBelow_49 (by decide) ?_
      refine z_callv (z_run (As := [.int 1]) (rest := []) hx hb hml hown hts hU hN (c_set l z _ (sG g1 1 b1) (i := 0) (by decide) (v := 1) (by decide)) (w_B_set_cw hts k_U_142 rfl rfl ⟨Nat.le_of_ble_eq_true rfl, Nat.le_of_ble_eq_true rfl⟩) (z_recvB hU (by decide)) rfl hl.1 rfl (lv_room (Nat.le_of_ble_eq_true rfl)) d_U_setUnitBelow_50 ⟨Nat.zero_le _, Nat.zero_le _⟩) hU (fun g50 H locs hp hU => ?_)
      obtain ⟨b0, rfl, r1, r2, r3⟩ := hp
      refine lv_goto (tgt := 74) hx hb d_U_setUnitBelow_53 (by decide) ?_
      exact z_vret hx hb hr hlocks hsz hU ⟨q1, q2, ⟨by rw [sG_s]; exact r1, by rw [sG_s]; exact r2, by rw [sG_s, r3, tB, if_pos h42]⟩, by rw [sG_n _ _ (by decide)]; exact q4.1, by rw [sG_n _ _ (by decide)]; exact q4.2.1, by rw [sG_n _ _ (by decide)]; exact q4.2.2⟩ d_U_setUnitBelow_74
  refine lv_aload_n hx hb d_U_setUnitBelow_0 rfl (lv_at hl 0 rfl) ?_
  refine lv_iconst (v := 0) hx hb d_U_setUnitBelow_1 (by decide) ?_
  refine zp_R hx hb hts hown hU (hts _ k_U_67) d_U_setUnitBelow_2 (fun H locs hU => ?_)
  generalize eg2 : sR g 0 = g2 at hU
  refine lv_aload_n hx hb d_U_setUnitBelow_5 rfl (lv_at hl 0 rfl) ?_
  refine va_get (D := z.1) (ci := 0) (v := .ref (oA z 6)) (C := R_U) (T := F_U) (N := 11) hx hb hts in_U hown hU.2.1 hU.1 0 rfl rfl 6 (by decide) (hts _ k_U_31) (fun _ h9 => h9) rfl d_U_setUnitBelow_6 ?_
  refine lv_iconst (v := 0) hx hb d_U_setUnitBelow_9 (by decide) ?_
  refine z_callv (z_run (As := [.int 0]) (rest := []) hx hb hml hown hts hU hN (c_set l z _ g2 (i := 6) (by decide) (v := 0) (by decide)) (w_B_set_cw hts k_U_142 rfl rfl ⟨Nat.le_of_ble_eq_true rfl, Nat.le_of_ble_eq_true rfl⟩) (z_recvB hU (by decide)) rfl hl.1 rfl (lv_room (Nat.le_of_ble_eq_true rfl)) d_U_setUnitBelow_10 ⟨Nat.zero_le _, Nat.zero_le _⟩) hU (fun g10 H locs hp hU => ?_)
  obtain ⟨b6, rfl, k1, k2, k3⟩ := hp
  refine lv_aload_n hx hb d_U_setUnitBelow_13 rfl (lv_at hl 0 rfl) ?_
  refine va_get (D := z.1) (ci := 0) (v := .ref (oA z 7)) (C := R_U) (T := F_U) (N := 11) hx hb hts in_U hown hU.2.1 hU.1 0 rfl rfl 7 (by decide) (hts _ k_U_34) (fun _ h9 => h9) rfl d_U_setUnitBelow_14 ?_
  refine lv_iconst (v := 0) hx hb d_U_setUnitBelow_17 (by decide) ?_
  refine z_callv (z_run (As := [.int 0]) (rest := []) hx hb hml hown hts hU hN (c_set l z _ (sG g2 6 b6) (i := 7) (by decide) (v := 0) (by decide)) (w_B_set_cw hts k_U_142 rfl rfl ⟨Nat.le_of_ble_eq_true rfl, Nat.le_of_ble_eq_true rfl⟩) (z_recvB hU (by decide)) rfl hl.1 rfl (lv_room (Nat.le_of_ble_eq_true rfl)) d_U_setUnitBelow_18 ⟨Nat.zero_le _, Nat.zero_le _⟩) hU (fun g18 H locs hp hU => ?_)
  obtain ⟨b7, rfl, m1, m2, m3⟩ := hp
  have q1 : (sG (sG g2 6 b6) 7 b7).1 = g.1 := by rw [← eg2]; rfl
  have q2 : (sG (sG g2 6 b6) 7 b7).2.1 = 0 := by rw [← eg2]; rfl
  have q3 : (bOk ((sG (sG g2 6 b6) 7 b7).2.2.2 6) ∧ ((sG (sG g2 6 b6) 7 b7).2.2.2 6).2.1 = 0 ∧ bv ((sG (sG g2 6 b6) 7 b7).2.2.2 6) = 0) ∧ (bOk ((sG (sG g2 6 b6) 7 b7).2.2.2 7) ∧ ((sG (sG g2 6 b6) 7 b7).2.2.2 7).2.1 = 0 ∧ bv ((sG (sG g2 6 b6) 7 b7).2.2.2 7) = 0) := ⟨by rw [sG_n _ _ (by decide), sG_s]; exact ⟨k1, k2, k3⟩, by rw [sG_s]; exact ⟨m1, m2, m3⟩⟩
  refine lv_aload_n hx hb d_U_setUnitBelow_21 rfl (lv_at hl 0 rfl) ?_
  refine va_get (D := z.1) (ci := 0) (v := .ref (oA z 1)) (C := R_U) (T := F_U) (N := 11) hx hb hts in_U hown hU.2.1 hU.1 0 rfl rfl 1 (by decide) (hts _ k_U_16) (fun _ h9 => h9) rfl d_U_setUnitBelow_22 ?_
  refine lv_iload_n hx hb d_U_setUnitBelow_25 rfl (lv_at hl 1 rfl) ?_
  refine lv_bipush (v := (-4)) hx hb d_U_setUnitBelow_26 (by decide) ?_
  refine lv_icmp_lt (tgt := 35) hx hb d_U_setUnitBelow_28 (by decide) (fun c28 => ?_) (fun c28 => ?_)
  · have h28 : d.toInt < -4 := Int32.lt_iff_toInt_lt.mp c28
    refine lv_iconst (v := 0) hx hb d_U_setUnitBelow_35 (by decide) ?_
    exact E36 0 (sG (sG g2 6 b6) 7 b7) _ _ ls (by decide) (by rw [uB, if_pos h28]) q1 q2 q3 hU (lv_sub hl [0, 1] rfl)
  · have h28 : ¬ d.toInt < -4 := fun q => c28 (Int32.lt_iff_toInt_lt.mpr q)
    refine lv_iconst (v := 1) hx hb d_U_setUnitBelow_31 (by decide) ?_
    refine lv_goto (tgt := 36) hx hb d_U_setUnitBelow_32 (by decide) ?_
    exact E36 1 (sG (sG g2 6 b6) 7 b7) _ _ ls (by decide) (by rw [uB, if_neg h28]) q1 q2 q3 hU (lv_sub hl [0, 1] rfl)
set_option maxHeartbeats 4000000 in
set_option maxRecDepth 100000 in
theorem c_countUnits (l : Launch) (z : ZZ) (sz : Nat) (g : St)  : Met l y_U_countUnits (zw y_U_countUnits b_U_countUnits 1 (some .int)) { frames := 0, cells := 0, slots := 0, locals := 0 } (va_Pc [.ref (mA z)] (zI z g sz)) (va_Qi (fun r g2 => g2 = g ∧ r = (if 0 < g.1.toInt then -1 else if g.1.toInt = -3 then 6 else if g.1.toInt = -4 then 4 else 2)) (zO z sz) (zA z sz)) 0 0 (zA z sz) := by
  refine z_ofW (by decide) (Nat.le_of_ble_eq_true rfl) (fun p e s m below meth c hx hb hr hml hown hts hlocks hname hsz hN ls hU hl => ?_)
  have hl : lv_has ls 1 [(0, .ref (mA z))] := hl
  refine lv_aload_n hx hb d_U_countUnits_0 rfl (lv_at hl 0 rfl) ?_
  refine va_get (D := z.1) (ci := 0) (v := .int g.1) (C := R_U) (T := F_U) (N := 11) hx hb hts in_U hown hU.2.1 hU.1 0 rfl rfl 9 (by decide) (hts _ k_U_63) (fun _ h9 => h9) rfl d_U_countUnits_1 ?_
  refine lv_topi (fun x1 ex1 => ?_)
  refine lv_if_le (tgt := 9) hx hb d_U_countUnits_4 (by decide) (fun c4 => ?_) (fun c4 => ?_)
  · have h4 : ¬ 0 < g.1.toInt := by
      rw [Int32.le_iff_toInt_le, Int32.toInt_zero, ex1] at c4
      exact Int.not_lt.mpr c4
    refine lv_aload_n hx hb d_U_countUnits_9 rfl (lv_at hl 0 rfl) ?_
    refine va_get (D := z.1) (ci := 0) (v := .int g.1) (C := R_U) (T := F_U) (N := 11) hx hb hts in_U hown hU.2.1 hU.1 0 rfl rfl 9 (by decide) (hts _ k_U_63) (fun _ h9 => h9) rfl d_U_countUnits_10 ?_
    refine lv_topi (fun x10 ex10 => ?_)
    refine lv_bipush (v := (-3)) hx hb d_U_countUnits_13 (by decide) ?_
    refine lv_icmp_ne (tgt := 21) hx hb d_U_countUnits_15 (by decide) (fun c15 => ?_) (fun c15 => ?_)
    · have h15 : ¬ g.1.toInt = -3 := fun q => c15 (by rw [ex10]; exact Int32.toInt_inj.mp q)
      refine lv_aload_n hx hb d_U_countUnits_21 rfl (lv_at hl 0 rfl) ?_
      refine va_get (D := z.1) (ci := 0) (v := .int g.1) (C := R_U) (T := F_U) (N := 11) hx hb hts in_U hown hU.2.1 hU.1 0 rfl rfl 9 (by decide) (hts _ k_U_63) (fun _ h9 => h9) rfl d_U_countUnits_22 ?_
      refine lv_topi (fun x22 ex22 => ?_)
      refine lv_bipush (v := (-4)) hx hb d_U_countUnits_25 (by decide) ?_
      refine lv_icmp_ne (tgt := 34) hx hb d_U_countUnits_27 (by decide) (fun c27 => ?_) (fun c27 => ?_)
      · have h27 : ¬ g.1.toInt = -4 := fun q => c27 (by rw [ex22]; exact Int32.toInt_inj.mp q)
        refine lv_iconst (v := 2) hx hb d_U_countUnits_34 (by decide) ?_
        exact z_iret hx hb hr hlocks hsz hU ⟨rfl, by rw [if_neg h4, if_neg h15, if_neg h27]⟩ d_U_countUnits_35
      · have h27 : g.1.toInt = -4 := by rw [← ex22, c27]; rfl
        refine lv_iconst (v := 4) hx hb d_U_countUnits_30 (by decide) ?_
        refine lv_goto (tgt := 35) hx hb d_U_countUnits_31 (by decide) ?_
        exact z_iret hx hb hr hlocks hsz hU ⟨rfl, by rw [if_neg h4, if_neg h15, if_pos h27]⟩ d_U_countUnits_35
    · have h15 : g.1.toInt = -3 := by rw [← ex10, c15]; rfl
      refine lv_bipush (v := 6) hx hb d_U_countUnits_18 (by decide) ?_
      exact z_iret hx hb hr hlocks hsz hU ⟨rfl, by rw [if_neg h4, if_pos h15]⟩ d_U_countUnits_20
  · have h4 : 0 < g.1.toInt := by
      rw [Int32.le_iff_toInt_le, Int32.toInt_zero, ex1] at c4
      exact Int.not_le.mp c4
    refine lv_iconst (v := (-1)) hx hb d_U_countUnits_7 (by decide) ?_
    exact z_iret hx hb hr hlocks hsz hU ⟨rfl, by rw [if_pos h4]⟩ d_U_countUnits_8
