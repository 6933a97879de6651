theorem xI8 {x : Int32} (h : 0 ≤ x.toInt ∧ x.toInt ≤ 7) : x = nI x.toInt.toNat := by apply Int32.toInt_inj.mp; rw [nI_toInt (by omega)]; omega
theorem xI9 {x : Int32} (h : 0 ≤ x.toInt ∧ x.toInt ≤ 511) : x = nI x.toInt.toNat := by apply Int32.toInt_inj.mp; rw [nI_toInt (by omega)]; omega
theorem xIM {x : Int32} (h : 1 ≤ x.toInt) : x = nI x.toInt.toNat := by have := i32_rng x; apply Int32.toInt_inj.mp; rw [nI_toInt (by omega)]; omega
set_option maxHeartbeats 4000000 in
set_option maxRecDepth 100000 in
theorem wl_take (l : Launch) (hlt : l.stackTraces = false) (sa : Nat → Nat) (z : ZZ) (sz : Nat) (g : St) (o : Nat) (cO : ClassId) (f : Nat → Int64) (hi : zInj z o) (d : Int32) : Met l y_L_take (Cond.codeWith y_L_take b_L_take 4 (some .int) [(0, 9, 12, 13)] :: zt) { frames := 9, cells := 1, slots := 6, locals := 190 } (va_Pc [.ref (mA z), .int d, .ref o] (wI sa z g o cO f sz)) (va_Qi (fun r (u : St × (Nat → Int64)) => (tk d.toInt → r = 0 ∧ cS u.1 d.toInt 1 (d.toInt % 2) ((d.toInt % 2 - d.toInt) / 4) ∧ u.2 0 = (nI (bl (uO d.toInt).1)).toInt64) ∧ (¬ tk d.toInt → r = 1 ∧ u.1 = g)) (fun u t => va_P z.1 vwCl (uw z u.1 ++ ow o cO u.2) t.heap) (wA z o sz)) 1 6 (wA z o sz) := by
  refine w_ofW (by decide) (Nat.le_of_ble_eq_true rfl) (fun p e s m below meth c hx hb hr hml hown hts hlocks htab hsz hP hK hN hX hH hC ls hl => ?_)
  have hl : lv_has ls 4 [(0, .ref (mA z)), (1, .int d), (2, .ref o)] := hl
  subst hsz
  have hPz : va_P z.1 vwCl (uw z g) s.heap := va_pre hP
  have hKz : va_K z.1 vwCl (zty z) s := hK.sub [0, 1, 2, 3, 4, 5, 6, 7, 8, 9] rfl
  have hDz : va_D (fun _ => True) (uw z g) := zD_of hi.1 (fun _ _ => trivial)
  have hS : va_S (wA z o s.heap.size) s.heap s.heap [] := va_S.rf
  refine lv_aload_n hx hb d_L_take_0 rfl (lv_at hl 2 rfl) ?_
  refine lv_iconst (v := 0) hx hb d_L_take_1 (by decide) ?_
  refine lv_aload_n hx hb d_L_take_2 rfl (lv_at hl 0 rfl) ?_
  refine lv_iload_n hx hb d_L_take_3 rfl (lv_at hl 1 rfl) ?_
  by_cases hd : tk d.toInt
  · refine w_calli (A0 := wA z o s.heap.size) (w_run (As := [.int d]) (rest := [.int 0, .ref o]) hx hb hml hown hts hPz hKz hDz hN (c_take l z _ g hd) (w_U_take_cw hts k_L_7 rfl rfl ⟨Nat.le_of_ble_eq_true rfl, Nat.le_of_ble_eq_true rfl⟩) rfl hl.1 rfl (lv_room (Nat.le_of_ble_eq_true rfl)) d_L_take_4 ⟨Nat.zero_le _, Nat.zero_le _⟩) hS wA_z (fun r9 g1 H1 locs1 hp hP1 hz1 hk1 hS1 => ?_)
    have hP2 := ow_kept hP hi hk1 hP1
    exact w_good hx hb hr hlocks hi hK hP2 hS1 (⟨fun _ => ⟨rfl, hp.1, by rw [hp.2]; rfl⟩, fun q => absurd hd q⟩) d_L_take_7 d_L_take_8 d_L_take_9 (by decide) d_L_take_15 d_L_take_16
  · refine x_call (A0 := wA z o s.heap.size) (H0 := s.heap) (As := [.int d]) (rest := [.int 0, .ref o]) hx hb hml hown hts hPz hKz (zD_of hi.1 (fun i h => Or.inl (Or.inl ⟨i, h, rfl⟩))) hN hX (hH.narrow wA_z) hS (fun q _ h => wA_z q h) wA_z (t_take l hlt sa z _ g hd) (w_U_take_cx hts k_L_7 rfl rfl ⟨Nat.le_of_ble_eq_true rfl, Nat.le_of_ble_eq_true rfl⟩) rfl hl.1 rfl (lv_room (Nat.le_of_ble_eq_true rfl)) d_L_take_4 ⟨Nat.le_refl _, Nat.le_refl _⟩ (fun ce q9 H1 locs1 hP1 hz1 hk1 hS1 h1 h2 h3 => ?_)
    have hP2 := ow_kept hP hi hk1 hP1
    refine vx_catch (name := E_A) hown [] ⟨0, 9, 12, 13⟩ [] (by rw [htab]; rfl) (fun z9 hz9 => by cases hz9) (by decide) (by decide) (hts _ kL_A) (xc_use hX xc_A) h1 h2 h3 ?_
    refine lv_astore_n (lv' := [(3, .ref q9), (0, .ref (mA z)), (1, .int d), (2, .ref o)]) hx hb d_L_take_12 rfl hl (by decide) rfl (fun ls hl => ?_)
    refine lv_iconst (v := 1) hx hb d_L_take_13 (by decide) ?_
    exact w_iret hx hb hr hlocks hP2 hS1 (⟨fun q => absurd q hd, fun _ => ⟨rfl, rfl⟩⟩) d_L_take_14
set_option maxHeartbeats 4000000 in
set_option maxRecDepth 100000 in
theorem wl_ask (l : Launch) (hlt : l.stackTraces = false) (sa : Nat → Nat) (z : ZZ) (sz : Nat) (g : St) (o : Nat) (cO : ClassId) (f : Nat → Int64) (hi : zInj z o) (a b c9 : Int32) {d a0 b0 c0 : Int} (hS0 : cS g d a0 b0 c0) : Met l y_L_ask (Cond.codeWith y_L_ask b_L_ask 5 (some .int) [(0, 7, 10, 13)] :: zt) { frames := 9, cells := 1, slots := 6, locals := 190 } (va_Pc [.ref (mA z), .int a, .int b, .int c9] (wI sa z g o cO f sz)) (va_Qi (fun r (u : St × (Nat → Int64)) => (akOk d a.toInt b.toInt c9.toInt → r = 0 ∧ cS u.1 d a.toInt b.toInt c9.toInt) ∧ (¬ akOk d a.toInt b.toInt c9.toInt → r = 1 ∧ u.1 = g)) (fun u t => va_P z.1 vwCl (uw z u.1 ++ ow o cO u.2) t.heap) (wA z o sz)) 1 6 (wA z o sz) := by
  refine w_ofW (by decide) (Nat.le_of_ble_eq_true rfl) (fun p e s m below meth c hx hb hr hml hown hts hlocks htab hsz hP hK hN hX hH hC ls hl => ?_)
  have hl : lv_has ls 5 [(0, .ref (mA z)), (1, .int a), (2, .int b), (3, .int c9)] := hl
  subst hsz
  have hPz : va_P z.1 vwCl (uw z g) s.heap := va_pre hP
  have hKz : va_K z.1 vwCl (zty z) s := hK.sub [0, 1, 2, 3, 4, 5, 6, 7, 8, 9] rfl
  have hDz : va_D (fun _ => True) (uw z g) := zD_of hi.1 (fun _ _ => trivial)
  have hS : va_S (wA z o s.heap.size) s.heap s.heap [] := va_S.rf
  refine lv_aload_n hx hb d_L_ask_0 rfl (lv_at hl 0 rfl) ?_
  refine lv_iload_n hx hb d_L_ask_1 rfl (lv_at hl 1 rfl) ?_
  refine lv_iload_n hx hb d_L_ask_2 rfl (lv_at hl 2 rfl) ?_
  refine lv_iload_n hx hb d_L_ask_3 rfl (lv_at hl 3 rfl) ?_
  by_cases hd : akOk d a.toInt b.toInt c9.toInt
  · refine w_callv (A0 := wA z o s.heap.size) (w_run (As := [.int a, .int b, .int c9]) (rest := []) hx hb hml hown hts hPz hKz hDz hN (c_ask l z _ g hS0 hd) (w_U_ask_cw hts k_L_15 rfl rfl ⟨Nat.le_of_ble_eq_true rfl, Nat.le_of_ble_eq_true rfl⟩) rfl hl.1 rfl (lv_room (Nat.le_of_ble_eq_true rfl)) d_L_ask_4 ⟨Nat.zero_le _, Nat.zero_le _⟩) hS wA_z (fun g1 H1 locs1 hp hP1 hz1 hk1 hS1 => ?_)
    have hP2 := ow_kept hP hi hk1 hP1
    refine lv_goto (tgt := 14) hx hb d_L_ask_7 (by decide) ?_
    refine lv_iconst (v := 0) hx hb d_L_ask_14 (by decide) ?_
    refine W.widen (k := 1) (n := 6) (by decide) (by decide) ?_
    exact w_iret hx hb hr hlocks hP2 hS1 (⟨fun _ => ⟨rfl, hp⟩, fun q => absurd hd q⟩) d_L_ask_15
  · refine x_call (A0 := wA z o s.heap.size) (H0 := s.heap) (As := [.int a, .int b, .int c9]) (rest := []) hx hb hml hown hts hPz hKz (zD_of hi.1 (fun i h => Or.inl (Or.inl ⟨i, h, rfl⟩))) hN hX (hH.narrow wA_z) hS (fun q _ h => wA_z q h) wA_z (t_ask l hlt sa z _ g hS0.1 hd) (w_U_ask_cx hts k_L_15 rfl rfl ⟨Nat.le_of_ble_eq_true rfl, Nat.le_of_ble_eq_true rfl⟩) rfl hl.1 rfl (lv_room (Nat.le_of_ble_eq_true rfl)) d_L_ask_4 ⟨Nat.le_refl _, Nat.le_refl _⟩ (fun ce q9 H1 locs1 hP1 hz1 hk1 hS1 h1 h2 h3 => ?_)
    have hP2 := ow_kept hP hi hk1 hP1
    refine vx_catch (name := E_A) hown [] ⟨0, 7, 10, 13⟩ [] (by rw [htab]; rfl) (fun z9 hz9 => by cases hz9) (by decide) (by decide) (hts _ kL_A) (xc_use hX xc_A) h1 h2 h3 ?_
    refine lv_astore (lv' := [(4, .ref q9), (0, .ref (mA z)), (1, .int a), (2, .int b), (3, .int c9)]) hx hb d_L_ask_10 hl (by decide) rfl (fun ls hl => ?_)
    refine lv_iconst (v := 1) hx hb d_L_ask_12 (by decide) ?_
    exact w_iret hx hb hr hlocks hP2 hS1 (⟨fun q => absurd q hd, fun _ => ⟨rfl, rfl⟩⟩) d_L_ask_13
set_option maxHeartbeats 4000000 in
set_option maxRecDepth 100000 in
theorem wl_power (l : Launch) (hlt : l.stackTraces = false) (sa : Nat → Nat) (z : ZZ) (sz : Nat) (g : St) (o : Nat) (cO : ClassId) (f : Nat → Int64) (hi : zInj z o) (n9 m9 w9 : Int32) {T U : Int} (h0 : bOk (g.2.2.2 0)) (h1 : bOk (g.2.2.2 1)) (hT : bz (g.2.2.2 0) = T) (hU9 : bz (g.2.2.2 1) = U) : Met l y_L_power (Cond.codeWith y_L_power b_L_power 6 (some .int) [(0, 12, 15, 13)] :: zt) { frames := 9, cells := 1, slots := 6, locals := 190 } (va_Pc [.ref (mA z), .int n9, .int m9, .int w9, .ref o] (wI sa z g o cO f sz)) (va_Qi (fun r (u : St × (Nat → Int64)) => ((0 ≤ n9.toInt ∧ 1 ≤ m9.toInt ∧ (0 ≤ w9.toInt ∧ w9.toInt ≤ 1)) → r = 0 ∧ u.1 = g ∧ ∃ x : Int32, u.2 0 = x.toInt64 ∧ x.toInt = pw T U n9.toInt.toNat w9 % m9.toInt) ∧ (¬ (0 ≤ n9.toInt ∧ 1 ≤ m9.toInt ∧ (0 ≤ w9.toInt ∧ w9.toInt ≤ 1)) → r = 1 ∧ u.1 = g)) (fun u t => va_P z.1 vwCl (uw z u.1 ++ ow o cO u.2) t.heap) (wA z o sz)) 1 6 (wA z o sz) := by
  refine w_ofW (by decide) (Nat.le_of_ble_eq_true rfl) (fun p e s m below meth c hx hb hr hml hown hts hlocks htab hsz hP hK hN hX hH hC ls hl => ?_)
  have hl : lv_has ls 6 [(0, .ref (mA z)), (1, .int n9), (2, .int m9), (3, .int w9), (4, .ref o)] := hl
  subst hsz
  have hPz : va_P z.1 vwCl (uw z g) s.heap := va_pre hP
  have hKz : va_K z.1 vwCl (zty z) s := hK.sub [0, 1, 2, 3, 4, 5, 6, 7, 8, 9] rfl
  have hDz : va_D (fun _ => True) (uw z g) := zD_of hi.1 (fun _ _ => trivial)
  have hS : va_S (wA z o s.heap.size) s.heap s.heap [] := va_S.rf
  refine lv_aload hx hb d_L_power_0 (lv_at hl 4 rfl) ?_
  refine lv_iconst (v := 0) hx hb d_L_power_2 (by decide) ?_
  refine lv_aload_n hx hb d_L_power_3 rfl (lv_at hl 0 rfl) ?_
  refine lv_iload_n hx hb d_L_power_4 rfl (lv_at hl 1 rfl) ?_
  refine lv_iload_n hx hb d_L_power_5 rfl (lv_at hl 2 rfl) ?_
  refine lv_iload_n hx hb d_L_power_6 rfl (lv_at hl 3 rfl) ?_
  by_cases hd : 0 ≤ n9.toInt ∧ 1 ≤ m9.toInt ∧ (0 ≤ w9.toInt ∧ w9.toInt ≤ 1)
  · refine w_calli (A0 := wA z o s.heap.size) (w_run (As := [.int n9, .int m9, .int w9]) (rest := [.int 0, .ref o]) hx hb hml hown hts hPz hKz hDz hN (c_power l z _ g h0 h1 hT hU9 hd) (w_U_power_cw hts k_L_19 rfl rfl ⟨Nat.le_of_ble_eq_true rfl, Nat.le_of_ble_eq_true rfl⟩) rfl hl.1 rfl (lv_room (Nat.le_of_ble_eq_true rfl)) d_L_power_7 ⟨Nat.zero_le _, Nat.zero_le _⟩) hS wA_z (fun r9 g1 H1 locs1 hp hP1 hz1 hk1 hS1 => ?_)
    have hP2 := ow_kept hP hi hk1 hP1
    exact w_good hx hb hr hlocks hi hK hP2 hS1 (⟨fun _ => ⟨rfl, hp.1, r9, rfl, hp.2⟩, fun q => absurd hd q⟩) d_L_power_10 d_L_power_11 d_L_power_12 (by decide) d_L_power_19 d_L_power_20
  · refine x_call (A0 := wA z o s.heap.size) (H0 := s.heap) (As := [.int n9, .int m9, .int w9]) (rest := [.int 0, .ref o]) hx hb hml hown hts hPz hKz (zD_of hi.1 (fun i h => Or.inl (Or.inl ⟨i, h, rfl⟩))) hN hX (hH.narrow wA_z) hS (fun q _ h => wA_z q h) wA_z (t_power l hlt sa z _ g hd) (w_U_power_cx hts k_L_19 rfl rfl ⟨Nat.le_of_ble_eq_true rfl, Nat.le_of_ble_eq_true rfl⟩) rfl hl.1 rfl (lv_room (Nat.le_of_ble_eq_true rfl)) d_L_power_7 ⟨Nat.le_refl _, Nat.le_refl _⟩ (fun ce q9 H1 locs1 hP1 hz1 hk1 hS1 h1 h2 h3 => ?_)
    have hP2 := ow_kept hP hi hk1 hP1
    refine vx_catch (name := E_A) hown [] ⟨0, 12, 15, 13⟩ [] (by rw [htab]; rfl) (fun z9 hz9 => by cases hz9) (by decide) (by decide) (hts _ kL_A) (xc_use hX xc_A) h1 h2 h3 ?_
    refine lv_astore (lv' := [(5, .ref q9), (0, .ref (mA z)), (1, .int n9), (2, .int m9), (3, .int w9), (4, .ref o)]) hx hb d_L_power_15 hl (by decide) rfl (fun ls hl => ?_)
    refine lv_iconst (v := 1) hx hb d_L_power_17 (by decide) ?_
    exact w_iret hx hb hr hlocks hP2 hS1 (⟨fun q => absurd q hd, fun _ => ⟨rfl, rfl⟩⟩) d_L_power_18
set_option maxHeartbeats 4000000 in
set_option maxRecDepth 100000 in
theorem wl_sign (l : Launch) (hlt : l.stackTraces = false) (sa : Nat → Nat) (z : ZZ) (sz : Nat) (g : St) (o : Nat) (cO : ClassId) (f : Nat → Int64) (hi : zInj z o) (x : Int32) (hok : ∀ i, i < 8 → bOk (g.2.2.2 i)) : Met l y_L_sign (Cond.codeWith y_L_sign b_L_sign 4 (some .int) [(0, 9, 12, 26)] :: zt) { frames := 9, cells := 1, slots := 6, locals := 190 } (va_Pc [.ref (mA z), .int x, .ref o] (wI sa z g o cO f sz)) (va_Qi (fun r (u : St × (Nat → Int64)) => ((0 ≤ x.toInt ∧ x.toInt ≤ 7) → r = 0 ∧ u.1 = g ∧ u.2 0 = (bsg (g.2.2.2 x.toInt.toNat)).toInt64) ∧ (¬ (0 ≤ x.toInt ∧ x.toInt ≤ 7) → r = 1 ∧ u.1 = g)) (fun u t => va_P z.1 vwCl (uw z u.1 ++ ow o cO u.2) t.heap) (wA z o sz)) 1 6 (wA z o sz) := by
  refine w_ofW (by decide) (Nat.le_of_ble_eq_true rfl) (fun p e s m below meth c hx hb hr hml hown hts hlocks htab hsz hP hK hN hX hH hC ls hl => ?_)
  have hl : lv_has ls 4 [(0, .ref (mA z)), (1, .int x), (2, .ref o)] := hl
  subst hsz
  have hPz : va_P z.1 vwCl (uw z g) s.heap := va_pre hP
  have hKz : va_K z.1 vwCl (zty z) s := hK.sub [0, 1, 2, 3, 4, 5, 6, 7, 8, 9] rfl
  have hDz : va_D (fun _ => True) (uw z g) := zD_of hi.1 (fun _ _ => trivial)
  have hS : va_S (wA z o s.heap.size) s.heap s.heap [] := va_S.rf
  refine lv_aload_n hx hb d_L_sign_0 rfl (lv_at hl 2 rfl) ?_
  refine lv_iconst (v := 0) hx hb d_L_sign_1 (by decide) ?_
  refine lv_aload_n hx hb d_L_sign_2 rfl (lv_at hl 0 rfl) ?_
  refine lv_iload_n hx hb d_L_sign_3 rfl (lv_at hl 1 rfl) ?_
  by_cases hd : 0 ≤ x.toInt ∧ x.toInt ≤ 7
  · refine w_calli (A0 := wA z o s.heap.size) (w_run (As := [.int x]) (rest := [.int 0, .ref o]) hx hb hml hown hts hPz hKz hDz hN (c_sign l z _ g (i := x.toInt.toNat) (by omega) (hok _ (by omega)) (xI8 hd)) (w_U_sign_cw hts k_L_23 rfl rfl ⟨Nat.le_of_ble_eq_true rfl, Nat.le_of_ble_eq_true rfl⟩) rfl hl.1 rfl (lv_room (Nat.le_of_ble_eq_true rfl)) d_L_sign_4 ⟨Nat.zero_le _, Nat.zero_le _⟩) hS wA_z (fun r9 g1 H1 locs1 hp hP1 hz1 hk1 hS1 => ?_)
    have hP2 := ow_kept hP hi hk1 hP1
    exact w_good hx hb hr hlocks hi hK hP2 hS1 (⟨fun _ => ⟨rfl, hp.1, by rw [hp.2]; rfl⟩, fun q => absurd hd q⟩) d_L_sign_7 d_L_sign_8 d_L_sign_9 (by decide) d_L_sign_15 d_L_sign_16
  · refine x_call (A0 := wA z o s.heap.size) (H0 := s.heap) (As := [.int x]) (rest := [.int 0, .ref o]) hx hb hml hown hts hPz hKz (zD_of hi.1 (fun i h => Or.inl (Or.inl ⟨i, h, rfl⟩))) hN hX (hH.narrow wA_z) hS (fun q _ h => wA_z q h) wA_z (t_sign l hlt sa z _ g hd) (w_U_sign_cx hts k_L_23 rfl rfl ⟨Nat.le_of_ble_eq_true rfl, Nat.le_of_ble_eq_true rfl⟩) rfl hl.1 rfl (lv_room (Nat.le_of_ble_eq_true rfl)) d_L_sign_4 ⟨Nat.le_refl _, Nat.le_refl _⟩ (fun ce q9 H1 locs1 hP1 hz1 hk1 hS1 h1 h2 h3 => ?_)
    have hP2 := ow_kept hP hi hk1 hP1
    refine vx_catch (name := E_I) hown [] ⟨0, 9, 12, 26⟩ [] (by rw [htab]; rfl) (fun z9 hz9 => by cases hz9) (by decide) (by decide) (hts _ kL_I) (xc_use hX xc_I) h1 h2 h3 ?_
    refine lv_astore_n (lv' := [(3, .ref q9), (0, .ref (mA z)), (1, .int x), (2, .ref o)]) hx hb d_L_sign_12 rfl hl (by decide) rfl (fun ls hl => ?_)
    refine lv_iconst (v := 1) hx hb d_L_sign_13 (by decide) ?_
    exact w_iret hx hb hr hlocks hP2 hS1 (⟨fun q => absurd q hd, fun _ => ⟨rfl, rfl⟩⟩) d_L_sign_14
set_option maxHeartbeats 4000000 in
set_option maxRecDepth 100000 in
theorem wl_bits (l : Launch) (hlt : l.stackTraces = false) (sa : Nat → Nat) (z : ZZ) (sz : Nat) (g : St) (o : Nat) (cO : ClassId) (f : Nat → Int64) (hi : zInj z o) (x : Int32) (hok : ∀ i, i < 8 → bOk (g.2.2.2 i)) : Met l y_L_bits (Cond.codeWith y_L_bits b_L_bits 4 (some .int) [(0, 9, 12, 26)] :: zt) { frames := 9, cells := 1, slots := 6, locals := 190 } (va_Pc [.ref (mA z), .int x, .ref o] (wI sa z g o cO f sz)) (va_Qi (fun r (u : St × (Nat → Int64)) => ((0 ≤ x.toInt ∧ x.toInt ≤ 7) → r = 0 ∧ u.1 = g ∧ u.2 0 = (nI (bl (bv (g.2.2.2 x.toInt.toNat)))).toInt64) ∧ (¬ (0 ≤ x.toInt ∧ x.toInt ≤ 7) → r = 1 ∧ u.1 = g)) (fun u t => va_P z.1 vwCl (uw z u.1 ++ ow o cO u.2) t.heap) (wA z o sz)) 1 6 (wA z o sz) := by
  refine w_ofW (by decide) (Nat.le_of_ble_eq_true rfl) (fun p e s m below meth c hx hb hr hml hown hts hlocks htab hsz hP hK hN hX hH hC ls hl => ?_)
  have hl : lv_has ls 4 [(0, .ref (mA z)), (1, .int x), (2, .ref o)] := hl
  subst hsz
  have hPz : va_P z.1 vwCl (uw z g) s.heap := va_pre hP
  have hKz : va_K z.1 vwCl (zty z) s := hK.sub [0, 1, 2, 3, 4, 5, 6, 7, 8, 9] rfl
  have hDz : va_D (fun _ => True) (uw z g) := zD_of hi.1 (fun _ _ => trivial)
  have hS : va_S (wA z o s.heap.size) s.heap s.heap [] := va_S.rf
  refine lv_aload_n hx hb d_L_bits_0 rfl (lv_at hl 2 rfl) ?_
  refine lv_iconst (v := 0) hx hb d_L_bits_1 (by decide) ?_
  refine lv_aload_n hx hb d_L_bits_2 rfl (lv_at hl 0 rfl) ?_
  refine lv_iload_n hx hb d_L_bits_3 rfl (lv_at hl 1 rfl) ?_
  by_cases hd : 0 ≤ x.toInt ∧ x.toInt ≤ 7
  · refine w_calli (A0 := wA z o s.heap.size) (w_run (As := [.int x]) (rest := [.int 0, .ref o]) hx hb hml hown hts hPz hKz hDz hN (c_bits l z _ g (i := x.toInt.toNat) (by omega) (hok _ (by omega)) (xI8 hd)) (w_U_bits_cw hts k_L_28 rfl rfl ⟨Nat.le_of_ble_eq_true rfl, Nat.le_of_ble_eq_true rfl⟩) rfl hl.1 rfl (lv_room (Nat.le_of_ble_eq_true rfl)) d_L_bits_4 ⟨Nat.zero_le _, Nat.zero_le _⟩) hS wA_z (fun r9 g1 H1 locs1 hp hP1 hz1 hk1 hS1 => ?_)
    have hP2 := ow_kept hP hi hk1 hP1
    exact w_good hx hb hr hlocks hi hK hP2 hS1 (⟨fun _ => ⟨rfl, hp.1, by rw [hp.2]; rfl⟩, fun q => absurd hd q⟩) d_L_bits_7 d_L_bits_8 d_L_bits_9 (by decide) d_L_bits_15 d_L_bits_16
  · refine x_call (A0 := wA z o s.heap.size) (H0 := s.heap) (As := [.int x]) (rest := [.int 0, .ref o]) hx hb hml hown hts hPz hKz (zD_of hi.1 (fun i h => Or.inl (Or.inl ⟨i, h, rfl⟩))) hN hX (hH.narrow wA_z) hS (fun q _ h => wA_z q h) wA_z (t_bits l hlt sa z _ g hd) (w_U_bits_cx hts k_L_28 rfl rfl ⟨Nat.le_of_ble_eq_true rfl, Nat.le_of_ble_eq_true rfl⟩) rfl hl.1 rfl (lv_room (Nat.le_of_ble_eq_true rfl)) d_L_bits_4 ⟨Nat.le_refl _, Nat.le_refl _⟩ (fun ce q9 H1 locs1 hP1 hz1 hk1 hS1 h1 h2 h3 => ?_)
    have hP2 := ow_kept hP hi hk1 hP1
    refine vx_catch (name := E_I) hown [] ⟨0, 9, 12, 26⟩ [] (by rw [htab]; rfl) (fun z9 hz9 => by cases hz9) (by decide) (by decide) (hts _ kL_I) (xc_use hX xc_I) h1 h2 h3 ?_
    refine lv_astore_n (lv' := [(3, .ref q9), (0, .ref (mA z)), (1, .int x), (2, .ref o)]) hx hb d_L_bits_12 rfl hl (by decide) rfl (fun ls hl => ?_)
    refine lv_iconst (v := 1) hx hb d_L_bits_13 (by decide) ?_
    exact w_iret hx hb hr hlocks hP2 hS1 (⟨fun q => absurd q hd, fun _ => ⟨rfl, rfl⟩⟩) d_L_bits_14
set_option maxHeartbeats 4000000 in
set_option maxRecDepth 100000 in
theorem wl_word (l : Launch) (hlt : l.stackTraces = false) (sa : Nat → Nat) (z : ZZ) (sz : Nat) (g : St) (o : Nat) (cO : ClassId) (f : Nat → Int64) (hi : zInj z o) (x k9 : Int32) (hok : ∀ i, i < 8 → bOk (g.2.2.2 i)) : Met l y_L_word (Cond.codeWith y_L_word b_L_word 5 (some .int) [(0, 10, 13, 26)] :: zt) { frames := 9, cells := 1, slots := 6, locals := 190 } (va_Pc [.ref (mA z), .int x, .int k9, .ref o] (wI sa z g o cO f sz)) (va_Qi (fun r (u : St × (Nat → Int64)) => (((0 ≤ x.toInt ∧ x.toInt ≤ 7) ∧ (0 ≤ k9.toInt ∧ k9.toInt ≤ 511)) → r = 0 ∧ u.1 = g ∧ ∃ w : Int32, u.2 0 = w.toInt64 ∧ wn w = bv (g.2.2.2 x.toInt.toNat) / 4294967296 ^ k9.toInt.toNat % 4294967296) ∧ (¬ ((0 ≤ x.toInt ∧ x.toInt ≤ 7) ∧ (0 ≤ k9.toInt ∧ k9.toInt ≤ 511)) → r = 1 ∧ u.1 = g)) (fun u t => va_P z.1 vwCl (uw z u.1 ++ ow o cO u.2) t.heap) (wA z o sz)) 1 6 (wA z o sz) := by
  refine w_ofW (by decide) (Nat.le_of_ble_eq_true rfl) (fun p e s m below meth c hx hb hr hml hown hts hlocks htab hsz hP hK hN hX hH hC ls hl => ?_)
  have hl : lv_has ls 5 [(0, .ref (mA z)), (1, .int x), (2, .int k9), (3, .ref o)] := hl
  subst hsz
  have hPz : va_P z.1 vwCl (uw z g) s.heap := va_pre hP
  have hKz : va_K z.1 vwCl (zty z) s := hK.sub [0, 1, 2, 3, 4, 5, 6, 7, 8, 9] rfl
  have hDz : va_D (fun _ => True) (uw z g) := zD_of hi.1 (fun _ _ => trivial)
  have hS : va_S (wA z o s.heap.size) s.heap s.heap [] := va_S.rf
  refine lv_aload_n hx hb d_L_word_0 rfl (lv_at hl 3 rfl) ?_
  refine lv_iconst (v := 0) hx hb d_L_word_1 (by decide) ?_
  refine lv_aload_n hx hb d_L_word_2 rfl (lv_at hl 0 rfl) ?_
  refine lv_iload_n hx hb d_L_word_3 rfl (lv_at hl 1 rfl) ?_
  refine lv_iload_n hx hb d_L_word_4 rfl (lv_at hl 2 rfl) ?_
  by_cases hd : (0 ≤ x.toInt ∧ x.toInt ≤ 7) ∧ (0 ≤ k9.toInt ∧ k9.toInt ≤ 511)
  · refine w_calli (A0 := wA z o s.heap.size) (w_run (As := [.int x, .int k9]) (rest := [.int 0, .ref o]) hx hb hml hown hts hPz hKz hDz hN (c_word l z _ g (i := x.toInt.toNat) (by omega) (hok _ (by omega)) (xI8 hd.1) (K := k9.toInt.toNat) (by omega) (xI9 hd.2)) (w_U_word_cw hts k_L_31 rfl rfl ⟨Nat.le_of_ble_eq_true rfl, Nat.le_of_ble_eq_true rfl⟩) rfl hl.1 rfl (lv_room (Nat.le_of_ble_eq_true rfl)) d_L_word_5 ⟨Nat.zero_le _, Nat.zero_le _⟩) hS wA_z (fun r9 g1 H1 locs1 hp hP1 hz1 hk1 hS1 => ?_)
    have hP2 := ow_kept hP hi hk1 hP1
    exact w_good hx hb hr hlocks hi hK hP2 hS1 (⟨fun _ => ⟨rfl, hp.1, r9, rfl, hp.2⟩, fun q => absurd hd q⟩) d_L_word_8 d_L_word_9 d_L_word_10 (by decide) d_L_word_17 d_L_word_18
  · by_cases hx8 : 0 ≤ x.toInt ∧ x.toInt ≤ 7
    · refine x_call (A0 := wA z o s.heap.size) (H0 := s.heap) (As := [.int x, .int k9]) (rest := [.int 0, .ref o]) hx hb hml hown hts hPz hKz (zD_of hi.1 (fun i h => Or.inl (Or.inl ⟨i, h, rfl⟩))) hN hX (hH.narrow wA_z) hS (fun q _ h => wA_z q h) wA_z (t_word2 l hlt sa z _ g (i := x.toInt.toNat) (by omega) (xI8 hx8) (fun q => hd ⟨hx8, q⟩)) (w_U_word_cx hts k_L_31 rfl rfl ⟨Nat.le_of_ble_eq_true rfl, Nat.le_of_ble_eq_true rfl⟩) rfl hl.1 rfl (lv_room (Nat.le_of_ble_eq_true rfl)) d_L_word_5 ⟨Nat.le_refl _, Nat.le_refl _⟩ (fun ce q9 H1 locs1 hP1 hz1 hk1 hS1 h1 h2 h3 => ?_)
      have hP2 := ow_kept hP hi hk1 hP1
      refine vx_catch (name := E_I) hown [] ⟨0, 10, 13, 26⟩ [] (by rw [htab]; rfl) (fun z9 hz9 => by cases hz9) (by decide) (by decide) (hts _ kL_I) (xc_use hX xc_I) h1 h2 h3 ?_
      refine lv_astore (lv' := [(4, .ref q9), (0, .ref (mA z)), (1, .int x), (2, .int k9), (3, .ref o)]) hx hb d_L_word_13 hl (by decide) rfl (fun ls hl => ?_)
      refine lv_iconst (v := 1) hx hb d_L_word_15 (by decide) ?_
      exact w_iret hx hb hr hlocks hP2 hS1 (⟨fun q => absurd q hd, fun _ => ⟨rfl, rfl⟩⟩) d_L_word_16
    · refine x_call (A0 := wA z o s.heap.size) (H0 := s.heap) (As := [.int x, .int k9]) (rest := [.int 0, .ref o]) hx hb hml hown hts hPz hKz (zD_of hi.1 (fun i h => Or.inl (Or.inl ⟨i, h, rfl⟩))) hN hX (hH.narrow wA_z) hS (fun q _ h => wA_z q h) wA_z (t_word1 l hlt sa z _ g hx8) (w_U_word_cx hts k_L_31 rfl rfl ⟨Nat.le_of_ble_eq_true rfl, Nat.le_of_ble_eq_true rfl⟩) rfl hl.1 rfl (lv_room (Nat.le_of_ble_eq_true rfl)) d_L_word_5 ⟨Nat.le_refl _, Nat.le_refl _⟩ (fun ce q9 H1 locs1 hP1 hz1 hk1 hS1 h1 h2 h3 => ?_)
      have hP2 := ow_kept hP hi hk1 hP1
      refine vx_catch (name := E_I) hown [] ⟨0, 10, 13, 26⟩ [] (by rw [htab]; rfl) (fun z9 hz9 => by cases hz9) (by decide) (by decide) (hts _ kL_I) (xc_use hX xc_I) h1 h2 h3 ?_
      refine lv_astore (lv' := [(4, .ref q9), (0, .ref (mA z)), (1, .int x), (2, .int k9), (3, .ref o)]) hx hb d_L_word_13 hl (by decide) rfl (fun ls hl => ?_)
      refine lv_iconst (v := 1) hx hb d_L_word_15 (by decide) ?_
      exact w_iret hx hb hr hlocks hP2 hS1 (⟨fun q => absurd q hd, fun _ => ⟨rfl, rfl⟩⟩) d_L_word_16
set_option maxHeartbeats 4000000 in
set_option maxRecDepth 100000 in
theorem wl_residue (l : Launch) (hlt : l.stackTraces = false) (sa : Nat → Nat) (z : ZZ) (sz : Nat) (g : St) (o : Nat) (cO : ClassId) (f : Nat → Int64) (hi : zInj z o) (x m9 : Int32) (hok : ∀ i, i < 8 → bOk (g.2.2.2 i)) : Met l y_L_residue (Cond.codeWith y_L_residue b_L_residue 5 (some .int) [(0, 10, 13, 26), (0, 10, 17, 13)] :: zt) { frames := 9, cells := 1, slots := 6, locals := 190 } (va_Pc [.ref (mA z), .int x, .int m9, .ref o] (wI sa z g o cO f sz)) (va_Qi (fun r (u : St × (Nat → Int64)) => (¬ (0 ≤ x.toInt ∧ x.toInt ≤ 7) → r = 1 ∧ u.1 = g) ∧ ((0 ≤ x.toInt ∧ x.toInt ≤ 7) → m9.toInt < 1 → r = 2 ∧ u.1 = g) ∧ ((0 ≤ x.toInt ∧ x.toInt ≤ 7) → 1 ≤ m9.toInt → r = 0 ∧ u.1 = g ∧ ∃ w : Int32, u.2 0 = w.toInt64 ∧ w.toInt = bz (g.2.2.2 x.toInt.toNat) % m9.toInt)) (fun u t => va_P z.1 vwCl (uw z u.1 ++ ow o cO u.2) t.heap) (wA z o sz)) 1 6 (wA z o sz) := by
  refine w_ofW (by decide) (Nat.le_of_ble_eq_true rfl) (fun p e s m below meth c hx hb hr hml hown hts hlocks htab hsz hP hK hN hX hH hC ls hl => ?_)
  have hl : lv_has ls 5 [(0, .ref (mA z)), (1, .int x), (2, .int m9), (3, .ref o)] := hl
  subst hsz
  have hPz : va_P z.1 vwCl (uw z g) s.heap := va_pre hP
  have hKz : va_K z.1 vwCl (zty z) s := hK.sub [0, 1, 2, 3, 4, 5, 6, 7, 8, 9] rfl
  have hDz : va_D (fun _ => True) (uw z g) := zD_of hi.1 (fun _ _ => trivial)
  have hS : va_S (wA z o s.heap.size) s.heap s.heap [] := va_S.rf
  refine lv_aload_n hx hb d_L_residue_0 rfl (lv_at hl 3 rfl) ?_
  refine lv_iconst (v := 0) hx hb d_L_residue_1 (by decide) ?_
  refine lv_aload_n hx hb d_L_residue_2 rfl (lv_at hl 0 rfl) ?_
  refine lv_iload_n hx hb d_L_residue_3 rfl (lv_at hl 1 rfl) ?_
  refine lv_iload_n hx hb d_L_residue_4 rfl (lv_at hl 2 rfl) ?_
  by_cases hd : (0 ≤ x.toInt ∧ x.toInt ≤ 7) ∧ 1 ≤ m9.toInt
  · refine w_calli (A0 := wA z o s.heap.size) (w_run (As := [.int x, .int m9]) (rest := [.int 0, .ref o]) hx hb hml hown hts hPz hKz hDz hN (c_residue l z _ g (i := x.toInt.toNat) (by omega) (hok _ (by omega)) (xI8 hd.1) (M := m9.toInt.toNat) (by omega) (by have := i32_rng m9; omega) (xIM hd.2)) (w_U_residue_cw hts k_L_35 rfl rfl ⟨Nat.le_of_ble_eq_true rfl, Nat.le_of_ble_eq_true rfl⟩) rfl hl.1 rfl (lv_room (Nat.le_of_ble_eq_true rfl)) d_L_residue_5 ⟨Nat.zero_le _, Nat.zero_le _⟩) hS wA_z (fun r9 g1 H1 locs1 hp hP1 hz1 hk1 hS1 => ?_)
    have hP2 := ow_kept hP hi hk1 hP1
    exact w_good hx hb hr hlocks hi hK hP2 hS1 (⟨fun q => absurd hd.1 q, fun _ q => absurd q (by omega), fun _ _ => ⟨rfl, hp.1, r9, rfl, by rw [hp.2, Int.toNat_of_nonneg (by omega)]⟩⟩) d_L_residue_8 d_L_residue_9 d_L_residue_10 (by decide) d_L_residue_21 d_L_residue_22
  · by_cases hx8 : 0 ≤ x.toInt ∧ x.toInt ≤ 7
    · refine x_call (A0 := wA z o s.heap.size) (H0 := s.heap) (As := [.int x, .int m9]) (rest := [.int 0, .ref o]) hx hb hml hown hts hPz hKz (zD_of hi.1 (fun i h => Or.inl (Or.inl ⟨i, h, rfl⟩))) hN hX (hH.narrow wA_z) hS (fun q _ h => wA_z q h) wA_z (t_residue2 l hlt sa z _ g (i := x.toInt.toNat) (by omega) (xI8 hx8) (by have : ¬ 1 ≤ m9.toInt := fun q => hd ⟨hx8, q⟩; omega)) (w_U_residue_cx hts k_L_35 rfl rfl ⟨Nat.le_of_ble_eq_true rfl, Nat.le_of_ble_eq_true rfl⟩) rfl hl.1 rfl (lv_room (Nat.le_of_ble_eq_true rfl)) d_L_residue_5 ⟨Nat.le_refl _, Nat.le_refl _⟩ (fun ce q9 H1 locs1 hP1 hz1 hk1 hS1 h1 h2 h3 => ?_)
      have hP2 := ow_kept hP hi hk1 hP1
      refine vx_catch (name := E_A) hown [⟨0, 10, 13, 26⟩] ⟨0, 10, 17, 13⟩ [] (by rw [htab]; rfl) (fun z9 hz9 => by cases List.mem_singleton.mp hz9; exact Or.inr ⟨by decide, E_I, hts _ kL_I, hC⟩) (by decide) (by decide) (hts _ kL_A) (xc_use hX xc_A) h1 h2 h3 ?_
      refine lv_astore (lv' := [(4, .ref q9), (0, .ref (mA z)), (1, .int x), (2, .int m9), (3, .ref o)]) hx hb d_L_residue_17 hl (by decide) rfl (fun ls hl => ?_)
      refine lv_iconst (v := 2) hx hb d_L_residue_19 (by decide) ?_
      exact w_iret hx hb hr hlocks hP2 hS1 (⟨fun q => absurd hx8 q, fun _ _ => ⟨rfl, rfl⟩, fun _ q => absurd ⟨hx8, q⟩ hd⟩) d_L_residue_20
    · refine x_call (A0 := wA z o s.heap.size) (H0 := s.heap) (As := [.int x, .int m9]) (rest := [.int 0, .ref o]) hx hb hml hown hts hPz hKz (zD_of hi.1 (fun i h => Or.inl (Or.inl ⟨i, h, rfl⟩))) hN hX (hH.narrow wA_z) hS (fun q _ h => wA_z q h) wA_z (t_residue1 l hlt sa z _ g hx8) (w_U_residue_cx hts k_L_35 rfl rfl ⟨Nat.le_of_ble_eq_true rfl, Nat.le_of_ble_eq_true rfl⟩) rfl hl.1 rfl (lv_room (Nat.le_of_ble_eq_true rfl)) d_L_residue_5 ⟨Nat.le_refl _, Nat.le_refl _⟩ (fun ce q9 H1 locs1 hP1 hz1 hk1 hS1 h1 h2 h3 => ?_)
      have hP2 := ow_kept hP hi hk1 hP1
      refine vx_catch (name := E_I) hown [] ⟨0, 10, 13, 26⟩ [⟨0, 10, 17, 13⟩] (by rw [htab]; rfl) (fun z9 hz9 => by cases hz9) (by decide) (by decide) (hts _ kL_I) (xc_use hX xc_I) h1 h2 h3 ?_
      refine lv_astore (lv' := [(4, .ref q9), (0, .ref (mA z)), (1, .int x), (2, .int m9), (3, .ref o)]) hx hb d_L_residue_13 hl (by decide) rfl (fun ls hl => ?_)
      refine lv_iconst (v := 1) hx hb d_L_residue_15 (by decide) ?_
      exact w_iret hx hb hr hlocks hP2 hS1 (⟨fun _ => ⟨rfl, rfl⟩, fun q => absurd q hx8, fun q => absurd q hx8⟩) d_L_residue_16
