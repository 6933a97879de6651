/-! UnitFinder: become -/
set_option maxHeartbeats 4000000 in
set_option maxRecDepth 100000 in
theorem c_findUnitAbove2 (l : Launch) (z : ZZ) (sz : Nat) (g : St) {d : Int32} {D : Nat} (hdD : d = nI D) (hd : dOk D) : Met l y_U_findUnitAbove (zw y_U_findUnitAbove b_U_findUnitAbove 5 none) { frames := 4, cells := 0, slots := 0, locals := 105 } (va_Pc [.ref (mA z), .int d] (zI z g sz)) (va_Qv (fun g2 => g2.1 = g.1 ∧ g2.2.1 = nI (uA D).2.2.2.2 ∧ nOk g2 (uA D).1 (uA D).2.1 (uA D).2.2.1 (uA D).2.2.2.1) (zO z sz) (zA z sz)) 0 0 (zA z sz) := by
  subst hdD
  exact c_findUnitAbove l z sz g hd
  /-- t, u, the two of -4, the ring's length, of any D -/
  def uO (d : Int) : Nat × Nat × Nat × Nat × Nat := if 0 < d then uA d.toNat else (tB d, uB d, 0, 0, 0)
  /-- the object's state: D, and the form asked latest -/
  def cS (g : St) (d a b c : Int) : Prop := g.1.toInt = d ∧ g.2.1 = nI (uO d).2.2.2.2 ∧ nOk g (uO d).1 (uO d).2.1 (uO d).2.2.1 (uO d).2.2.2.1 ∧ (bOk (g.2.2.2 2) ∧ bOk (g.2.2.2 3) ∧ bOk (g.2.2.2 4) ∧ bOk (g.2.2.2 5)) ∧ bz (g.2.2.2 2) = (if b < 0 then amS (uO d).1 (uO d).2.1 b else amD (uO d).1 (uO d).2.1 b) ∧ bz (g.2.2.2 3) = amT (uO d).2.1 (-c) ∧ bz (g.2.2.2 4) = amT (uO d).2.1 a ∧ bz (g.2.2.2 5) = (if b < 0 then amD (uO d).1 (uO d).2.1 b else amS (uO d).1 (uO d).2.1 b)
  theorem nOk.keep {g g2 : St} {t u a b : Nat} (h : nOk g t u a b) (hs : sP g g2) : nOk g2 t u a b := by
    obtain ⟨h0, h1, h6, h7⟩ := h
    exact ⟨by rw [hs.2.2.2 0 (by omega)]; exact h0, by rw [hs.2.2.2 1 (by omega)]; exact h1, by rw [hs.2.2.2 6 (by omega)]; exact h6, by rw [hs.2.2.2 7 (by omega)]; exact h7⟩
set_option maxHeartbeats 4000000 in
set_option maxRecDepth 100000 in
theorem c_become (l : Launch) (z : ZZ) (sz : Nat) (g : St) {d : Int32} (hd : tk d.toInt) : Met l y_U_become (zw y_U_become b_U_become 3 none) { frames := 5, cells := 0, slots := 0, locals := 129 } (va_Pc [.ref (mA z), .int d] (zI z g sz)) (va_Qv (fun g2 => cS g2 d.toInt 1 (d.toInt % 2) ((d.toInt % 2 - d.toInt) / 4)) (zO z sz) (zA z sz)) 0 0 (zA z sz) := by
  refine z_ofW (by decide) (Nat.le_of_ble_eq_true rfl) (fun p e s m below meth c hx hb hr hml hown hts hlocks hname hsz hN ls hU hl => ?_)
  have hl : lv_has ls 3 [(0, .ref (mA z)), (1, .int d)] := hl
  have hdr := i32_rng d
  have E : ∀ (g1 : St) (H : Heap) (locs : List Loc) (ls : Array Slot), g1.1 = d → g1.2.1 = nI (uO d.toInt).2.2.2.2 → nOk g1 (uO d.toInt).1 (uO d.toInt).2.1 (uO d.toInt).2.2.1 (uO d.toInt).2.2.2.1 → Ws z g1 s.heap H locs s → lv_has ls 3 [(0, .ref (mA z)), (1, .int d)] → W p l e ({ frames := 5, cells := 0, slots := 0, locals := 129 } : Room) s m ([.ref (mA z), .int d] : List Value).toArray below meth c H locs 0 0 (MQ below (va_Qv (fun g2 => cS g2 d.toInt 1 (d.toInt % 2) ((d.toInt % 2 - d.toInt) / 4)) (zO z sz) (zA z sz)) ([.ref (mA z), .int d] : List Value).toArray s 0 0 (zA z sz)) (F0 m 22 ls []) := by
    intro g1 H locs ls q1 q2 q3 hU hl
    refine lv_iload_n hx hb d_U_become_22 rfl (lv_at hl 1 rfl) ?_
    refine lv_iconst (v := 1) hx hb d_U_become_23 (by decide) ?_
    refine lv_iand hx hb d_U_become_24 ?_
    refine lv_topi (fun x24 ex24 => ?_)
    refine lv_istore_n (lv' := [(2, .int x24), (0, .ref (mA z)), (1, .int d)]) hx hb d_U_become_25 rfl hl (by decide) rfl (fun ls hl => ?_)
    refine lv_aload_n hx hb d_U_become_26 rfl (lv_at hl 1 rfl) ?_
    refine lv_iconst (v := 1) hx hb d_U_become_27 (by decide) ?_
    refine lv_iload_n hx hb d_U_become_28 rfl (lv_at hl 0 rfl) ?_
    refine lv_iload_n hx hb d_U_become_29 rfl (lv_at hl 0 rfl) ?_
    refine lv_iload_n hx hb d_U_become_30 rfl (lv_at hl 2 rfl) ?_
    refine lv_isub hx hb d_U_become_31 ?_
    refine lv_topi (fun x31 ex31 => ?_)
    refine lv_iconst (v := 4) hx hb d_U_become_32 (by decide) ?_
    have hne33 : ¬ (4 : Int32) = 0 := by decide
    refine lv_idiv hx hb d_U_become_33 hne33 ?_
    refine lv_topi (fun x33 ex33 => ?_)
    have t24 : x24.toInt = d.toInt % 2 := by rw [ex24]; exact Jvm.Kit.i32_mask d 1 (k := 1) (by decide) (by decide)
    have t31 : x31.toInt = d.toInt % 2 - d.toInt := by
      have := hd.1
      have := hd.2.1
      rw [ex31, Jvm.Kit.i32_sub] <;> rw [t24] <;> omega
    have t33 : x33.toInt = (d.toInt % 2 - d.toInt) / 4 := by
      have h4 : d.toInt % 4 = d.toInt % 2 := by have := hd.2.2.1; omega
      rw [ex33, Jvm.Kit.i32_div (by rw [t31]; intro q; have := q.2; exact absurd this (by decide)), t31, show (4 : Int32).toInt = 4 from rfl, Int.tdiv_eq_ediv_of_dvd]
      omega
    obtain ⟨⟨a0, a1, a2⟩, ⟨b0, b1, b2⟩, -, -⟩ := id q3
    have hdl := hd.1
    have hdu := hd.2.1
    refine z_callv (z_run (As := [.int 1, .int x24, .int x33]) (rest := []) hx hb hml hown hts hU hN (c_makeAutomorph l z _ g1 a0 b0 a1 b1 (a := 1) (b := x24) (c0 := x33) (by rw [t24]; omega) (by rw [t33]; omega)) (w_U_makeAutomorph_cw hts k_U_91 rfl rfl ⟨Nat.le_of_ble_eq_true rfl, Nat.le_of_ble_eq_true rfl⟩) (z_recvM hU) rfl hl.1 rfl (lv_room (Nat.le_of_ble_eq_true rfl)) d_U_become_34 ⟨Nat.zero_le _, Nat.zero_le _⟩) hU (fun g34 H locs hp hU => ?_)
    obtain ⟨s1, k2, k3, k4, k5, z2, z3, z4, z5⟩ := hp
    rw [a2, b2, t24] at z2 z5
    rw [b2, t33] at z3
    rw [b2] at z4
    exact z_vret hx hb hr hlocks hsz hU ⟨by rw [s1.1, q1], by rw [s1.2.1, q2], q3.keep s1, ⟨k2, k3, k4, k5⟩, z2, z3, z4, z5⟩ d_U_become_37
  refine lv_aload_n hx hb d_U_become_0 rfl (lv_at hl 0 rfl) ?_
  refine lv_iload_n hx hb d_U_become_1 rfl (lv_at hl 1 rfl) ?_
  refine zp_D hx hb hts hown hU (hts _ k_U_63) d_U_become_2 (fun H locs hU => ?_)
  generalize eg2 : sD g d = g2 at hU
  refine lv_iload_n hx hb d_U_become_5 rfl (lv_at hl 1 rfl) ?_
  refine lv_if_le (tgt := 17) hx hb d_U_become_6 (by decide) (fun c6 => ?_) (fun c6 => ?_)
  · have h6 : ¬ 0 < d.toInt := by
      rw [Int32.le_iff_toInt_le, Int32.toInt_zero] at c6
      omega
    refine lv_aload_n hx hb d_U_become_17 rfl (lv_at hl 0 rfl) ?_
    refine lv_iload_n hx hb d_U_become_18 rfl (lv_at hl 1 rfl) ?_
    refine z_callv (z_run (As := [.int d]) (rest := []) hx hb hml hown hts hU hN (c_setUnitBelow l z _ g2 (d := d)) (w_U_setUnitBelow_cw hts k_U_139 rfl rfl ⟨Nat.le_of_ble_eq_true rfl, Nat.le_of_ble_eq_true rfl⟩) (z_recvM hU) rfl hl.1 rfl (lv_room (Nat.le_of_ble_eq_true rfl)) d_U_become_19 ⟨Nat.zero_le _, Nat.zero_le _⟩) hU (fun g19 H locs hp hU => ?_)
    obtain ⟨k1, k2, k3⟩ := hp
    exact E g19 _ _ ls (by rw [k1, ← eg2]; rfl) (by rw [k2, uO, if_neg h6]; rfl) (by rw [uO, if_neg h6]; exact k3) hU hl
  · have h6 : 0 < d.toInt := by
      rw [Int32.le_iff_toInt_le, Int32.toInt_zero] at c6
      omega
    have hdD : d = nI d.toInt.toNat := by
      apply Int32.toInt_inj.mp
      rw [nI_toInt (by omega)]
      omega
    have hdn : ((d.toInt.toNat : Nat) : Int) = d.toInt := by omega
    have hdo : dOk d.toInt.toNat := tk_dOk (by rw [hdn]; exact hd) (by omega)
    refine lv_aload_n hx hb d_U_become_9 rfl (lv_at hl 0 rfl) ?_
    refine lv_iload_n hx hb d_U_become_10 rfl (lv_at hl 1 rfl) ?_
    refine z_callv (z_run (As := [.int d]) (rest := []) hx hb hml hown hts hU hN (c_findUnitAbove2 l z _ g2 hdD hdo) (w_U_findUnitAbove_cw hts k_U_136 rfl rfl ⟨Nat.le_of_ble_eq_true rfl, Nat.le_of_ble_eq_true rfl⟩) (z_recvM hU) rfl hl.1 rfl (lv_room (Nat.le_of_ble_eq_true rfl)) d_U_become_11 ⟨Nat.zero_le _, Nat.zero_le _⟩) hU (fun g11 H locs hp hU => ?_)
    obtain ⟨k1, k2, k3⟩ := hp
    refine lv_goto (tgt := 22) hx hb d_U_become_14 (by decide) ?_
    exact E g11 _ _ ls (by rw [k1, ← eg2]; rfl) (by rw [k2, uO, if_pos h6]) (by rw [uO, if_pos h6]; exact k3) hU hl
