theorem xA_b : ∀ w ∈ (vx_atS R_U 56 E_A xNm).filter (fun w => !goodWord w), w ∈ xB := fun w h => List.mem_append_left _ h
theorem xI_b : ∀ w ∈ (vx_atS R_U 117 E_I xNm).filter (fun w => !goodWord w), w ∈ xB := fun w h => List.mem_append_right _ h
theorem w_U_numberAt_cx {R : Room} {s : State} {args : Array Value} {own : String} {index : Nat} {rm : Room} (hts : ∀ w ∈ zt, w.before args s = true) (hl : Cond.methodLink own index y_U_numberAt ∈ zt) (hrc : rm.cells = 1) (hrs : rm.slots = 6) (hR : rm.frames + 1 ≤ R.frames ∧ 8 + (2 + 11) + rm.locals ≤ R.locals) : CallW R s args own R_U index y_U_numberAt b_U_numberAt 2 (some (.object "UnitFinder$Big")) (Cond.code y_U_numberAt b_U_numberAt 2 (some (.object "UnitFinder$Big")) :: zt) rm 1 6 1 := ⟨callB_of 1 hts (zgood w_U_numberAt_co) rfl hrc hrs (hts _ q_in_U) (hts _ hl) (by decide +kernel) hR, hts _ w_U_numberAt_im, hts _ w_U_numberAt_se⟩
theorem w_U_take_cx {R : Room} {s : State} {args : Array Value} {own : String} {index : Nat} {rm : Room} (hts : ∀ w ∈ zt, w.before args s = true) (hl : Cond.methodLink own index y_U_take ∈ zt) (hrc : rm.cells = 1) (hrs : rm.slots = 6) (hR : rm.frames + 1 ≤ R.frames ∧ 8 + (2 + 11) + rm.locals ≤ R.locals) : CallW R s args own R_U index y_U_take b_U_take 2 (some .int) (Cond.code y_U_take b_U_take 2 (some .int) :: zt) rm 1 6 1 := ⟨callB_of 1 hts (zgood w_U_take_co) rfl hrc hrs (hts _ q_in_U) (hts _ hl) (by decide +kernel) hR, hts _ w_U_take_im, hts _ w_U_take_se⟩
theorem w_U_ask_cx {R : Room} {s : State} {args : Array Value} {own : String} {index : Nat} {rm : Room} (hts : ∀ w ∈ zt, w.before args s = true) (hl : Cond.methodLink own index y_U_ask ∈ zt) (hrc : rm.cells = 1) (hrs : rm.slots = 6) (hR : rm.frames + 1 ≤ R.frames ∧ 8 + (4 + 11) + rm.locals ≤ R.locals) : CallW R s args own R_U index y_U_ask b_U_ask 4 none (Cond.code y_U_ask b_U_ask 4 none :: zt) rm 1 6 3 := ⟨callB_of 3 hts (zgood w_U_ask_co) rfl hrc hrs (hts _ q_in_U) (hts _ hl) (by decide +kernel) hR, hts _ w_U_ask_im, hts _ w_U_ask_se⟩
theorem w_U_power_cx {R : Room} {s : State} {args : Array Value} {own : String} {index : Nat} {rm : Room} (hts : ∀ w ∈ zt, w.before args s = true) (hl : Cond.methodLink own index y_U_power ∈ zt) (hrc : rm.cells = 1) (hrs : rm.slots = 6) (hR : rm.frames + 1 ≤ R.frames ∧ 8 + (15 + 11) + rm.locals ≤ R.locals) : CallW R s args own R_U index y_U_power b_U_power 15 (some .int) (Cond.code y_U_power b_U_power 15 (some .int) :: zt) rm 1 6 3 := ⟨callB_of 3 hts (zgood w_U_power_co) rfl hrc hrs (hts _ q_in_U) (hts _ hl) (by decide +kernel) hR, hts _ w_U_power_im, hts _ w_U_power_se⟩
theorem w_U_sign_cx {R : Room} {s : State} {args : Array Value} {own : String} {index : Nat} {rm : Room} (hts : ∀ w ∈ zt, w.before args s = true) (hl : Cond.methodLink own index y_U_sign ∈ zt) (hrc : rm.cells = 1) (hrs : rm.slots = 6) (hR : rm.frames + 1 ≤ R.frames ∧ 8 + (2 + 11) + rm.locals ≤ R.locals) : CallW R s args own R_U index y_U_sign b_U_sign 2 (some .int) (Cond.code y_U_sign b_U_sign 2 (some .int) :: zt) rm 1 6 1 := ⟨callB_of 1 hts (zgood w_U_sign_co) rfl hrc hrs (hts _ q_in_U) (hts _ hl) (by decide +kernel) hR, hts _ w_U_sign_im, hts _ w_U_sign_se⟩
theorem w_U_bits_cx {R : Room} {s : State} {args : Array Value} {own : String} {index : Nat} {rm : Room} (hts : ∀ w ∈ zt, w.before args s = true) (hl : Cond.methodLink own index y_U_bits ∈ zt) (hrc : rm.cells = 1) (hrs : rm.slots = 6) (hR : rm.frames + 1 ≤ R.frames ∧ 8 + (2 + 11) + rm.locals ≤ R.locals) : CallW R s args own R_U index y_U_bits b_U_bits 2 (some .int) (Cond.code y_U_bits b_U_bits 2 (some .int) :: zt) rm 1 6 1 := ⟨callB_of 1 hts (zgood w_U_bits_co) rfl hrc hrs (hts _ q_in_U) (hts _ hl) (by decide +kernel) hR, hts _ w_U_bits_im, hts _ w_U_bits_se⟩
theorem w_U_word_cx {R : Room} {s : State} {args : Array Value} {own : String} {index : Nat} {rm : Room} (hts : ∀ w ∈ zt, w.before args s = true) (hl : Cond.methodLink own index y_U_word ∈ zt) (hrc : rm.cells = 1) (hrs : rm.slots = 6) (hR : rm.frames + 1 ≤ R.frames ∧ 8 + (4 + 11) + rm.locals ≤ R.locals) : CallW R s args own R_U index y_U_word b_U_word 4 (some .int) (Cond.code y_U_word b_U_word 4 (some .int) :: zt) rm 1 6 2 := ⟨callB_of 2 hts (zgood w_U_word_co) rfl hrc hrs (hts _ q_in_U) (hts _ hl) (by decide +kernel) hR, hts _ w_U_word_im, hts _ w_U_word_se⟩
theorem w_U_residue_cx {R : Room} {s : State} {args : Array Value} {own : String} {index : Nat} {rm : Room} (hts : ∀ w ∈ zt, w.before args s = true) (hl : Cond.methodLink own index y_U_residue ∈ zt) (hrc : rm.cells = 1) (hrs : rm.slots = 6) (hR : rm.frames + 1 ≤ R.frames ∧ 8 + (4 + 11) + rm.locals ≤ R.locals) : CallW R s args own R_U index y_U_residue b_U_residue 4 (some .int) (Cond.code y_U_residue b_U_residue 4 (some .int) :: zt) rm 1 6 2 := ⟨callB_of 2 hts (zgood w_U_residue_co) rfl hrc hrs (hts _ q_in_U) (hts _ hl) (by decide +kernel) hR, hts _ w_U_residue_im, hts _ w_U_residue_se⟩
set_option maxHeartbeats 4000000 in
set_option maxRecDepth 100000 in
theorem t_numberAt (l : Launch) (hlt : l.stackTraces = false) (sa : Nat → Nat) (z : ZZ) (sz : Nat) (g : St) {x : Int32} (hxi : ¬ (0 ≤ x.toInt ∧ x.toInt ≤ 7)) : vx_Met l y_U_numberAt (zw y_U_numberAt b_U_numberAt 2 (some (.object "UnitFinder$Big"))) { frames := 6, cells := 1, slots := 6, locals := 90 } (va_Pc [.ref (mA z), .int x] (xI sa z g sz)) (fun _ _ _ _ => False) (vx_X (fun u : St => u = g) (xO z sz E_I) (zA z sz)) 1 6 (zA z sz) := by
  refine x_ofW (by decide) (Nat.le_of_ble_eq_true rfl) (fun p e s m below meth c hx hb hml hown hts hlocks hsz hN hX hH ht ls hU hl => ?_)
  have hl : lv_has ls 2 [(0, .ref (mA z)), (1, .int x)] := hl
  refine lv_iload_n hx hb d_U_numberAt_0 rfl (lv_at hl 1 rfl) ?_
  refine lv_tableOut hx hb d_U_numberAt_1 (tgt := 88) (by omega) (by decide) ?_
  exact x_throw hx hb hlt hown hts (by decide +kernel) xI_k xI_i xI_g xI_b xI_o hX hH hX.2.2.2.2.2.2.2.2 hsz hU (hl.1.trans hml.symm) d_U_numberAt_88 d_U_numberAt_91 d_U_numberAt_92 d_U_numberAt_94 d_U_numberAt_97 ht hlocks (by decide) (by decide) (by decide) (by decide)
set_option maxHeartbeats 4000000 in
set_option maxRecDepth 100000 in
theorem t_take (l : Launch) (hlt : l.stackTraces = false) (sa : Nat → Nat) (z : ZZ) (sz : Nat) (g : St) {d : Int32} (hd : ¬ tk d.toInt) : vx_Met l y_U_take (zw y_U_take b_U_take 2 (some .int)) { frames := 6, cells := 1, slots := 6, locals := 90 } (va_Pc [.ref (mA z), .int d] (xI sa z g sz)) (fun _ _ _ _ => False) (vx_X (fun u : St => u = g) (xO z sz E_A) (zA z sz)) 1 6 (zA z sz) := by
  refine x_ofW (by decide) (Nat.le_of_ble_eq_true rfl) (fun p e s m below meth c hx hb hml hown hts hlocks hsz hN hX hH ht ls hU hl => ?_)
  have hl : lv_has ls 2 [(0, .ref (mA z)), (1, .int d)] := hl
  refine lv_iload_n hx hb d_U_take_0 rfl (lv_at hl 1 rfl) ?_
  refine pr_call (As := [.int d]) (rest := []) hx hb hml hown hts (c_canBeTaken l d) (w_U_canBeTaken_cw hts k_U_48 rfl rfl ⟨Nat.le_of_ble_eq_true rfl, Nat.le_of_ble_eq_true rfl⟩) rfl hl.1 rfl (lv_room (Nat.le_of_ble_eq_true rfl)) d_U_take_1 ⟨Nat.zero_le _, Nat.zero_le _⟩ ?_
  refine lv_topi (fun x1 ex1 => ?_)
  refine lv_if_ne (tgt := 17) hx hb d_U_take_4 (by decide) (fun c4 => ?_) (fun c4 => ?_)
  · exact absurd (by rw [ex1, tkI_0 hd]) c4
  · exact x_throw hx hb hlt hown hts (by decide +kernel) xA_k xA_i xA_g xA_b xA_o hX hH hX.2.1 hsz hU (hl.1.trans hml.symm) d_U_take_7 d_U_take_10 d_U_take_11 d_U_take_13 d_U_take_16 ht hlocks (by decide) (by decide) (by decide) (by decide)
set_option maxHeartbeats 4000000 in
set_option maxRecDepth 100000 in
theorem t_sign (l : Launch) (hlt : l.stackTraces = false) (sa : Nat → Nat) (z : ZZ) (sz : Nat) (g : St) {x : Int32} (hxi : ¬ (0 ≤ x.toInt ∧ x.toInt ≤ 7)) : vx_Met l y_U_sign (zw y_U_sign b_U_sign 2 (some .int)) { frames := 7, cells := 1, slots := 6, locals := 115 } (va_Pc [.ref (mA z), .int x] (xI sa z g sz)) (fun _ _ _ _ => False) (vx_X (fun u : St => u = g) (xO z sz E_I) (zA z sz)) 1 6 (zA z sz) := by
  refine x_ofW (by decide) (Nat.le_of_ble_eq_true rfl) (fun p e s m below meth c hx hb hml hown hts hlocks hsz hN hX hH ht ls hU hl => ?_)
  have hl : lv_has ls 2 [(0, .ref (mA z)), (1, .int x)] := hl
  refine lv_aload_n hx hb d_U_sign_0 rfl (lv_at hl 0 rfl) ?_
  refine lv_iload_n hx hb d_U_sign_1 rfl (lv_at hl 1 rfl) ?_
  exact x_pass (As := [.int x]) (rest := []) hx hb hml hown hts hsz hU hN hX hH ht hlocks (t_numberAt l hlt sa z sz g hxi) (w_U_numberAt_cx hts k_U_109 rfl rfl ⟨Nat.le_of_ble_eq_true rfl, Nat.le_of_ble_eq_true rfl⟩) rfl hl.1 rfl (lv_room (Nat.le_of_ble_eq_true rfl)) d_U_sign_2 ⟨Nat.le_refl _, Nat.le_refl _⟩
set_option maxHeartbeats 4000000 in
set_option maxRecDepth 100000 in
theorem t_bits (l : Launch) (hlt : l.stackTraces = false) (sa : Nat → Nat) (z : ZZ) (sz : Nat) (g : St) {x : Int32} (hxi : ¬ (0 ≤ x.toInt ∧ x.toInt ≤ 7)) : vx_Met l y_U_bits (zw y_U_bits b_U_bits 2 (some .int)) { frames := 7, cells := 1, slots := 6, locals := 115 } (va_Pc [.ref (mA z), .int x] (xI sa z g sz)) (fun _ _ _ _ => False) (vx_X (fun u : St => u = g) (xO z sz E_I) (zA z sz)) 1 6 (zA z sz) := by
  refine x_ofW (by decide) (Nat.le_of_ble_eq_true rfl) (fun p e s m below meth c hx hb hml hown hts hlocks hsz hN hX hH ht ls hU hl => ?_)
  have hl : lv_has ls 2 [(0, .ref (mA z)), (1, .int x)] := hl
  refine lv_aload_n hx hb d_U_bits_0 rfl (lv_at hl 0 rfl) ?_
  refine lv_iload_n hx hb d_U_bits_1 rfl (lv_at hl 1 rfl) ?_
  exact x_pass (As := [.int x]) (rest := []) hx hb hml hown hts hsz hU hN hX hH ht hlocks (t_numberAt l hlt sa z sz g hxi) (w_U_numberAt_cx hts k_U_109 rfl rfl ⟨Nat.le_of_ble_eq_true rfl, Nat.le_of_ble_eq_true rfl⟩) rfl hl.1 rfl (lv_room (Nat.le_of_ble_eq_true rfl)) d_U_bits_2 ⟨Nat.le_refl _, Nat.le_refl _⟩
set_option maxHeartbeats 4000000 in
set_option maxRecDepth 100000 in
theorem t_word1 (l : Launch) (hlt : l.stackTraces = false) (sa : Nat → Nat) (z : ZZ) (sz : Nat) (g : St) {x k9 : Int32} (hxi : ¬ (0 ≤ x.toInt ∧ x.toInt ≤ 7)) : vx_Met l y_U_word (zw y_U_word b_U_word 4 (some .int)) { frames := 7, cells := 1, slots := 6, locals := 115 } (va_Pc [.ref (mA z), .int x, .int k9] (xI sa z g sz)) (fun _ _ _ _ => False) (vx_X (fun u : St => u = g) (xO z sz E_I) (zA z sz)) 1 6 (zA z sz) := by
  refine x_ofW (by decide) (Nat.le_of_ble_eq_true rfl) (fun p e s m below meth c hx hb hml hown hts hlocks hsz hN hX hH ht ls hU hl => ?_)
  have hl : lv_has ls 4 [(0, .ref (mA z)), (1, .int x), (2, .int k9)] := hl
  refine lv_aload_n hx hb d_U_word_0 rfl (lv_at hl 0 rfl) ?_
  refine lv_iload_n hx hb d_U_word_1 rfl (lv_at hl 1 rfl) ?_
  exact x_pass (As := [.int x]) (rest := []) hx hb hml hown hts hsz hU hN hX hH ht hlocks (t_numberAt l hlt sa z sz g hxi) (w_U_numberAt_cx hts k_U_109 rfl rfl ⟨Nat.le_of_ble_eq_true rfl, Nat.le_of_ble_eq_true rfl⟩) rfl hl.1 rfl (lv_room (Nat.le_of_ble_eq_true rfl)) d_U_word_2 ⟨Nat.le_refl _, Nat.le_refl _⟩
set_option maxHeartbeats 4000000 in
set_option maxRecDepth 100000 in
theorem t_word2 (l : Launch) (hlt : l.stackTraces = false) (sa : Nat → Nat) (z : ZZ) (sz : Nat) (g : St) {i : Nat} (hi : i < 8) {x k9 : Int32} (hxi : x = nI i) (hk : ¬ (0 ≤ k9.toInt ∧ k9.toInt ≤ 511)) : vx_Met l y_U_word (zw y_U_word b_U_word 4 (some .int)) { frames := 8, cells := 1, slots := 6, locals := 160 } (va_Pc [.ref (mA z), .int x, .int k9] (xI sa z g sz)) (fun _ _ _ _ => False) (vx_X (fun u : St => u = g) (xO z sz E_I) (zA z sz)) 1 6 (zA z sz) := by
  refine x_ofW (by decide) (Nat.le_of_ble_eq_true rfl) (fun p e s m below meth c hx hb hml hown hts hlocks hsz hN hX hH ht ls hU hl => ?_)
  have hl : lv_has ls 4 [(0, .ref (mA z)), (1, .int x), (2, .int k9)] := hl
  refine lv_aload_n hx hb d_U_word_0 rfl (lv_at hl 0 rfl) ?_
  refine lv_iload_n hx hb d_U_word_1 rfl (lv_at hl 1 rfl) ?_
  refine z_callr (z_run (As := [.int x]) (rest := []) hx hb hml hown hts hU hN (c_numberAt l z _ g hi hxi) (w_U_numberAt_cw hts k_U_109 rfl rfl ⟨Nat.le_of_ble_eq_true rfl, Nat.le_of_ble_eq_true rfl⟩) (z_recvM hU) rfl hl.1 rfl (lv_room (Nat.le_of_ble_eq_true rfl)) d_U_word_2 ⟨Nat.zero_le _, Nat.zero_le _⟩) hU (fun g2 H locs hp hU => ?_)
  rw [hp] at hU
  refine lv_astore_n (lv' := [(3, .ref (oA z i)), (0, .ref (mA z)), (1, .int x), (2, .int k9)]) hx hb d_U_word_5 rfl hl (by decide) rfl (fun ls hl => ?_)
  refine lv_iload_n hx hb d_U_word_6 rfl (lv_at hl 3 rfl) ?_
  refine lv_if_lt (tgt := 17) hx hb d_U_word_7 (by decide) (fun c7 => ?_) (fun c7 => ?_)
  · exact x_throw hx hb hlt hown hts (by decide +kernel) xI_k xI_i xI_g xI_b xI_o hX hH hX.2.2.2.2.2.2.1 hsz hU (hl.1.trans hml.symm) d_U_word_17 d_U_word_20 d_U_word_21 d_U_word_23 d_U_word_26 ht hlocks (by decide) (by decide) (by decide) (by decide)
  · have h7 : ¬ k9.toInt < 0 := fun q => c7 (Int32.lt_iff_toInt_lt.mpr q)
    refine lv_iload_n hx hb d_U_word_10 rfl (lv_at hl 3 rfl) ?_
    refine lv_sipush (v := 512) hx hb d_U_word_11 (by decide) ?_
    refine lv_icmp_lt (tgt := 27) hx hb d_U_word_14 (by decide) (fun c14 => ?_) (fun c14 => ?_)
    · exact absurd (Int32.lt_iff_toInt_lt.mp c14) (by rw [show (512 : Int32).toInt = 512 from rfl]; omega)
    · exact x_throw hx hb hlt hown hts (by decide +kernel) xI_k xI_i xI_g xI_b xI_o hX hH hX.2.2.2.2.2.2.1 hsz hU (hl.1.trans hml.symm) d_U_word_17 d_U_word_20 d_U_word_21 d_U_word_23 d_U_word_26 ht hlocks (by decide) (by decide) (by decide) (by decide)
set_option maxHeartbeats 4000000 in
set_option maxRecDepth 100000 in
theorem t_residue1 (l : Launch) (hlt : l.stackTraces = false) (sa : Nat → Nat) (z : ZZ) (sz : Nat) (g : St) {x m9 : Int32} (hxi : ¬ (0 ≤ x.toInt ∧ x.toInt ≤ 7)) : vx_Met l y_U_residue (zw y_U_residue b_U_residue 4 (some .int)) { frames := 7, cells := 1, slots := 6, locals := 115 } (va_Pc [.ref (mA z), .int x, .int m9] (xI sa z g sz)) (fun _ _ _ _ => False) (vx_X (fun u : St => u = g) (xO z sz E_I) (zA z sz)) 1 6 (zA z sz) := by
  refine x_ofW (by decide) (Nat.le_of_ble_eq_true rfl) (fun p e s m below meth c hx hb hml hown hts hlocks hsz hN hX hH ht ls hU hl => ?_)
  have hl : lv_has ls 4 [(0, .ref (mA z)), (1, .int x), (2, .int m9)] := hl
  refine lv_aload_n hx hb d_U_residue_0 rfl (lv_at hl 0 rfl) ?_
  refine lv_iload_n hx hb d_U_residue_1 rfl (lv_at hl 1 rfl) ?_
  exact x_pass (As := [.int x]) (rest := []) hx hb hml hown hts hsz hU hN hX hH ht hlocks (t_numberAt l hlt sa z sz g hxi) (w_U_numberAt_cx hts k_U_109 rfl rfl ⟨Nat.le_of_ble_eq_true rfl, Nat.le_of_ble_eq_true rfl⟩) rfl hl.1 rfl (lv_room (Nat.le_of_ble_eq_true rfl)) d_U_residue_2 ⟨Nat.le_refl _, Nat.le_refl _⟩
set_option maxHeartbeats 4000000 in
set_option maxRecDepth 100000 in
theorem t_residue2 (l : Launch) (hlt : l.stackTraces = false) (sa : Nat → Nat) (z : ZZ) (sz : Nat) (g : St) {i : Nat} (hi : i < 8) {x m9 : Int32} (hxi : x = nI i) (hm : m9.toInt < 1) : vx_Met l y_U_residue (zw y_U_residue b_U_residue 4 (some .int)) { frames := 8, cells := 1, slots := 6, locals := 160 } (va_Pc [.ref (mA z), .int x, .int m9] (xI sa z g sz)) (fun _ _ _ _ => False) (vx_X (fun u : St => u = g) (xO z sz E_A) (zA z sz)) 1 6 (zA z sz) := by
  refine x_ofW (by decide) (Nat.le_of_ble_eq_true rfl) (fun p e s m below meth c hx hb hml hown hts hlocks hsz hN hX hH ht ls hU hl => ?_)
  have hl : lv_has ls 4 [(0, .ref (mA z)), (1, .int x), (2, .int m9)] := hl
  refine lv_aload_n hx hb d_U_residue_0 rfl (lv_at hl 0 rfl) ?_
  refine lv_iload_n hx hb d_U_residue_1 rfl (lv_at hl 1 rfl) ?_
  refine z_callr (z_run (As := [.int x]) (rest := []) hx hb hml hown hts hU hN (c_numberAt l z _ g hi hxi) (w_U_numberAt_cw hts k_U_109 rfl rfl ⟨Nat.le_of_ble_eq_true rfl, Nat.le_of_ble_eq_true rfl⟩) (z_recvM hU) rfl hl.1 rfl (lv_room (Nat.le_of_ble_eq_true rfl)) d_U_residue_2 ⟨Nat.zero_le _, Nat.zero_le _⟩) hU (fun g2 H locs hp hU => ?_)
  rw [hp] at hU
  refine lv_astore_n (lv' := [(3, .ref (oA z i)), (0, .ref (mA z)), (1, .int x), (2, .int m9)]) hx hb d_U_residue_5 rfl hl (by decide) rfl (fun ls hl => ?_)
  refine lv_iload_n hx hb d_U_residue_6 rfl (lv_at hl 3 rfl) ?_
  refine lv_iconst (v := 1) hx hb d_U_residue_7 (by decide) ?_
  refine lv_icmp_ge (tgt := 21) hx hb d_U_residue_8 (by decide) (fun c8 => ?_) (fun c8 => ?_)
  · exact absurd (Int32.le_iff_toInt_le.mp c8) (by rw [show (1 : Int32).toInt = 1 from rfl]; omega)
  · exact x_throw hx hb hlt hown hts (by decide +kernel) xA_k xA_i xA_g xA_b xA_o hX hH hX.2.2.2.2.2.2.2.1 hsz hU (hl.1.trans hml.symm) d_U_residue_11 d_U_residue_14 d_U_residue_15 d_U_residue_17 d_U_residue_20 ht hlocks (by decide) (by decide) (by decide) (by decide)
set_option maxHeartbeats 4000000 in
set_option maxRecDepth 100000 in
theorem t_ask (l : Launch) (hlt : l.stackTraces = false) (sa : Nat → Nat) (z : ZZ) (sz : Nat) (g : St) {a b c9 : Int32} {d : Int} (hS : g.1.toInt = d) (hk : ¬ akOk d a.toInt b.toInt c9.toInt) : vx_Met l y_U_ask (zw y_U_ask b_U_ask 4 none) { frames := 6, cells := 1, slots := 6, locals := 90 } (va_Pc [.ref (mA z), .int a, .int b, .int c9] (xI sa z g sz)) (fun _ _ _ _ => False) (vx_X (fun u : St => u = g) (xO z sz E_A) (zA z sz)) 1 6 (zA z sz) := by
  refine x_ofW (by decide) (Nat.le_of_ble_eq_true rfl) (fun p e s m below meth c hx hb hml hown hts hlocks hsz hN hX hH ht ls hU hl => ?_)
  have hl : lv_has ls 4 [(0, .ref (mA z)), (1, .int a), (2, .int b), (3, .int c9)] := hl
  refine lv_iload_n hx hb d_U_ask_0 rfl (lv_at hl 1 rfl) ?_
  refine pr_call (As := [.int a]) (rest := []) hx hb hml hown hts (c_isCoefficient l a) (w_U_isCoefficient_cw hts k_U_76 rfl rfl ⟨Nat.le_of_ble_eq_true rfl, Nat.le_of_ble_eq_true rfl⟩) rfl hl.1 rfl (lv_room (Nat.le_of_ble_eq_true rfl)) d_U_ask_1 ⟨Nat.zero_le _, Nat.zero_le _⟩ ?_
  refine lv_topi (fun x1 ex1 => ?_)
  refine lv_if_eq (tgt := 21) hx hb d_U_ask_4 (by decide) (fun c4 => ?_) (fun c4 => ?_)
  · exact x_throw hx hb hlt hown hts (by decide +kernel) xA_k xA_i xA_g xA_b xA_o hX hH hX.2.2.1 hsz hU (hl.1.trans hml.symm) d_U_ask_21 d_U_ask_24 d_U_ask_25 d_U_ask_27 d_U_ask_30 ht hlocks (by decide) (by decide) (by decide) (by decide)
  · have z1 := Classical.byContradiction fun q => c4 (by rw [ex1, if_neg q])
    refine lv_iload_n hx hb d_U_ask_7 rfl (lv_at hl 2 rfl) ?_
    refine pr_call (As := [.int b]) (rest := []) hx hb hml hown hts (c_isCoefficient l b) (w_U_isCoefficient_cw hts k_U_76 rfl rfl ⟨Nat.le_of_ble_eq_true rfl, Nat.le_of_ble_eq_true rfl⟩) rfl hl.1 rfl (lv_room (Nat.le_of_ble_eq_true rfl)) d_U_ask_8 ⟨Nat.zero_le _, Nat.zero_le _⟩ ?_
    refine lv_topi (fun x8 ex8 => ?_)
    refine lv_if_eq (tgt := 21) hx hb d_U_ask_11 (by decide) (fun c11 => ?_) (fun c11 => ?_)
    · exact x_throw hx hb hlt hown hts (by decide +kernel) xA_k xA_i xA_g xA_b xA_o hX hH hX.2.2.1 hsz hU (hl.1.trans hml.symm) d_U_ask_21 d_U_ask_24 d_U_ask_25 d_U_ask_27 d_U_ask_30 ht hlocks (by decide) (by decide) (by decide) (by decide)
    · have z2 := Classical.byContradiction fun q => c11 (by rw [ex8, if_neg q])
      refine lv_iload_n hx hb d_U_ask_14 rfl (lv_at hl 3 rfl) ?_
      refine pr_call (As := [.int c9]) (rest := []) hx hb hml hown hts (c_isCoefficient l c9) (w_U_isCoefficient_cw hts k_U_76 rfl rfl ⟨Nat.le_of_ble_eq_true rfl, Nat.le_of_ble_eq_true rfl⟩) rfl hl.1 rfl (lv_room (Nat.le_of_ble_eq_true rfl)) d_U_ask_15 ⟨Nat.zero_le _, Nat.zero_le _⟩ ?_
      refine lv_topi (fun x15 ex15 => ?_)
      refine lv_if_ne (tgt := 31) hx hb d_U_ask_18 (by decide) (fun c18 => ?_) (fun c18 => ?_)
      · have z3 := Classical.byContradiction fun q => c18 (by rw [ex15, if_neg q])
        obtain ⟨A, eA⟩ : ∃ A, A = a.toInt := ⟨_, rfl⟩
        obtain ⟨B, eB⟩ : ∃ B, B = b.toInt := ⟨_, rfl⟩
        obtain ⟨C, eC⟩ : ∃ C, C = c9.toInt := ⟨_, rfl⟩
        have tA : ∀ x : Int64, x = a.toInt64 → x.toInt = A := fun x hx => by rw [hx, eA]; exact Jvm.Kit.i64_of_i32 a
        have tB9 : ∀ x : Int64, x = b.toInt64 → x.toInt = B := fun x hx => by rw [hx, eB]; exact Jvm.Kit.i64_of_i32 b
        have tC : ∀ x : Int64, x = c9.toInt64 → x.toInt = C := fun x hx => by rw [hx, eC]; exact Jvm.Kit.i64_of_i32 c9
        have m1 := mb30 z2 z2
        have m2 := mb30 z1 z3
        have m3 := z1
        rw [← eB] at m1
        rw [← eA, ← eC] at m2
        rw [← eA] at m3
        have hac : 4 * A * C = 4 * (A * C) := Int.mul_assoc 4 A C
        refine lv_iload_n hx hb d_U_ask_31 rfl (lv_at hl 2 rfl) ?_
        refine lv_i2l hx hb d_U_ask_32 rfl ?_
        refine lv_topl (fun x32 ex32 => ?_)
        refine lv_iload_n hx hb d_U_ask_33 rfl (lv_at hl 2 rfl) ?_
        refine lv_i2l hx hb d_U_ask_34 rfl ?_
        refine lv_topl (fun x34 ex34 => ?_)
        refine lv_lmul hx hb d_U_ask_35 ?_
        refine lv_topl (fun x35 ex35 => ?_)
        refine lv_ldc2 (v := 4) hx hb hown (hts _ k_U_81) d_U_ask_36 ?_
        refine lv_iload_n hx hb d_U_ask_39 rfl (lv_at hl 1 rfl) ?_
        refine lv_i2l hx hb d_U_ask_40 rfl ?_
        refine lv_topl (fun x40 ex40 => ?_)
        refine lv_lmul hx hb d_U_ask_41 ?_
        refine lv_topl (fun x41 ex41 => ?_)
        refine lv_iload_n hx hb d_U_ask_42 rfl (lv_at hl 3 rfl) ?_
        refine lv_i2l hx hb d_U_ask_43 rfl ?_
        refine lv_topl (fun x43 ex43 => ?_)
        refine lv_lmul hx hb d_U_ask_44 ?_
        refine lv_topl (fun x44 ex44 => ?_)
        refine lv_lsub hx hb d_U_ask_45 ?_
        refine lv_topl (fun x45 ex45 => ?_)
        refine lv_aload_n hx hb d_U_ask_46 rfl (lv_at hl 0 rfl) ?_
        refine va_get (D := z.1) (ci := 0) (v := .int g.1) (C := R_U) (T := F_U) (N := 11) hx hb hts in_U hown hU.2.1 hU.1 0 rfl rfl 9 (by decide) (hts _ k_U_63) (fun _ h9 => h9) rfl d_U_ask_47 ?_
        refine lv_topi (fun x47 ex47 => ?_)
        refine lv_i2l hx hb d_U_ask_50 rfl ?_
        refine lv_topl (fun x50 ex50 => ?_)
        refine W.lcmp hx hb d_U_ask_51 ?_
        have t35 : x35.toInt = B * B := by rw [ex35, Jvm.Kit.i64_mul] <;> rw [tB9 x32 ex32, tB9 x34 ex34] <;> omega
        have t41 : x41.toInt = 4 * A := by rw [ex41, Jvm.Kit.i64_mul] <;> rw [tA x40 ex40, show (4 : Int64).toInt = 4 from rfl] <;> omega
        have t44 : x44.toInt = 4 * A * C := by rw [ex44, Jvm.Kit.i64_mul] <;> rw [t41, tC x43 ex43] <;> rw [hac] <;> omega
        have t45 : x45.toInt = B * B - 4 * A * C := by rw [ex45, Jvm.Kit.i64_sub] <;> rw [t35, t44] <;> rw [hac] <;> omega
        have t50 : x50.toInt = d := by rw [ex50, Jvm.Kit.i64_of_i32, ex47]; exact hS
        refine lv_if_eq (tgt := 65) hx hb d_U_ask_52 (by decide) (fun c52 => ?_) (fun c52 => ?_)
        · have h52 : B * B - 4 * A * C = d := by
            have q := (lg_cmp_eq _ _).mp c52
            rw [← t45, ← t50, q]
          have hz2 := z2
          have hz3 := z3
          refine lv_iload_n hx hb d_U_ask_65 rfl (lv_at hl 1 rfl) ?_
          refine lv_iload_n hx hb d_U_ask_66 rfl (lv_at hl 2 rfl) ?_
          refine pr_call (As := [.int a, .int b]) (rest := []) hx hb hml hown hts (c_commonDivisor l (x := a) (y := b) (by omega) (by omega)) (w_U_commonDivisor_cw hts k_U_85 rfl rfl ⟨Nat.le_of_ble_eq_true rfl, Nat.le_of_ble_eq_true rfl⟩) rfl hl.1 rfl (lv_room (Nat.le_of_ble_eq_true rfl)) d_U_ask_67 ⟨Nat.zero_le _, Nat.zero_le _⟩ ?_
          refine lv_topi (fun x67 ex67 => ?_)
          have hgl : Nat.gcd a.toInt.natAbs b.toInt.natAbs ≤ 1073741824 := gcd_le' (by omega) (by omega)
          have t67 : x67.toInt.natAbs = Nat.gcd a.toInt.natAbs b.toInt.natAbs := by rw [ex67, nI_toInt (by omega)]; rfl
          refine lv_iload_n hx hb d_U_ask_70 rfl (lv_at hl 3 rfl) ?_
          refine pr_call (As := [.int x67, .int c9]) (rest := []) hx hb hml hown hts (c_commonDivisor l (x := x67) (y := c9) (by omega) (by omega)) (w_U_commonDivisor_cw hts k_U_85 rfl rfl ⟨Nat.le_of_ble_eq_true rfl, Nat.le_of_ble_eq_true rfl⟩) rfl hl.1 rfl (lv_room (Nat.le_of_ble_eq_true rfl)) d_U_ask_71 ⟨Nat.zero_le _, Nat.zero_le _⟩ ?_
          refine lv_topi (fun x71 ex71 => ?_)
          rw [t67] at ex71
          have hgl2 : Nat.gcd (Nat.gcd a.toInt.natAbs b.toInt.natAbs) c9.toInt.natAbs ≤ 1073741824 := gcd_le' hgl (by omega)
          refine lv_iconst (v := 1) hx hb d_U_ask_74 (by decide) ?_
          refine lv_icmp_eq (tgt := 88) hx hb d_U_ask_75 (by decide) (fun c75 => ?_) (fun c75 => ?_)
          · have h75 : Nat.gcd (Nat.gcd a.toInt.natAbs b.toInt.natAbs) c9.toInt.natAbs = 1 := by
              have q : x71 = 1 := c75
              have q2 := congrArg Int32.toInt (ex71.symm.trans q)
              rw [nI_toInt (by omega), show (1 : Int32).toInt = 1 from rfl] at q2
              omega
            exact absurd ⟨⟨z1, z2, z3⟩, by rw [← eA, ← eB, ← eC]; exact h52, h75⟩ hk
          · exact x_throw hx hb hlt hown hts (by decide +kernel) xA_k xA_i xA_g xA_b xA_o hX hH hX.2.2.2.2.1 hsz hU (hl.1.trans hml.symm) d_U_ask_78 d_U_ask_81 d_U_ask_82 d_U_ask_84 d_U_ask_87 ht hlocks (by decide) (by decide) (by decide) (by decide)
        · exact x_throw hx hb hlt hown hts (by decide +kernel) xA_k xA_i xA_g xA_b xA_o hX hH hX.2.2.2.1 hsz hU (hl.1.trans hml.symm) d_U_ask_55 d_U_ask_58 d_U_ask_59 d_U_ask_61 d_U_ask_64 ht hlocks (by decide) (by decide) (by decide) (by decide)
      · exact x_throw hx hb hlt hown hts (by decide +kernel) xA_k xA_i xA_g xA_b xA_o hX hH hX.2.2.1 hsz hU (hl.1.trans hml.symm) d_U_ask_21 d_U_ask_24 d_U_ask_25 d_U_ask_27 d_U_ask_30 ht hlocks (by decide) (by decide) (by decide) (by decide)
set_option maxHeartbeats 4000000 in
set_option maxRecDepth 100000 in
theorem t_power (l : Launch) (hlt : l.stackTraces = false) (sa : Nat → Nat) (z : ZZ) (sz : Nat) (g : St) {n9 m9 w9 : Int32} (hk : ¬ (0 ≤ n9.toInt ∧ 1 ≤ m9.toInt ∧ (0 ≤ w9.toInt ∧ w9.toInt ≤ 1))) : vx_Met l y_U_power (zw y_U_power b_U_power 15 (some .int)) { frames := 6, cells := 1, slots := 6, locals := 90 } (va_Pc [.ref (mA z), .int n9, .int m9, .int w9] (xI sa z g sz)) (fun _ _ _ _ => False) (vx_X (fun u : St => u = g) (xO z sz E_A) (zA z sz)) 1 6 (zA z sz) := by
  refine x_ofW (by decide) (Nat.le_of_ble_eq_true rfl) (fun p e s m below meth c hx hb hml hown hts hlocks hsz hN hX hH ht ls hU hl => ?_)
  have hl : lv_has ls 15 [(0, .ref (mA z)), (1, .int n9), (2, .int m9), (3, .int w9)] := hl
  refine lv_iload_n hx hb d_U_power_0 rfl (lv_at hl 1 rfl) ?_
  refine lv_if_lt (tgt := 18) hx hb d_U_power_1 (by decide) (fun c1 => ?_) (fun c1 => ?_)
  · exact x_throw hx hb hlt hown hts (by decide +kernel) xA_k xA_i xA_g xA_b xA_o hX hH hX.2.2.2.2.2.1 hsz hU (hl.1.trans hml.symm) d_U_power_18 d_U_power_21 d_U_power_22 d_U_power_24 d_U_power_27 ht hlocks (by decide) (by decide) (by decide) (by decide)
  · have h1 : ¬ n9.toInt < 0 := fun q => c1 (Int32.lt_iff_toInt_lt.mpr q)
    refine lv_iload_n hx hb d_U_power_4 rfl (lv_at hl 2 rfl) ?_
    refine lv_iconst (v := 1) hx hb d_U_power_5 (by decide) ?_
    refine lv_icmp_lt (tgt := 18) hx hb d_U_power_6 (by decide) (fun c6 => ?_) (fun c6 => ?_)
    · exact x_throw hx hb hlt hown hts (by decide +kernel) xA_k xA_i xA_g xA_b xA_o hX hH hX.2.2.2.2.2.1 hsz hU (hl.1.trans hml.symm) d_U_power_18 d_U_power_21 d_U_power_22 d_U_power_24 d_U_power_27 ht hlocks (by decide) (by decide) (by decide) (by decide)
    · have h6 : ¬ m9.toInt < 1 := fun q => c6 (Int32.lt_iff_toInt_lt.mpr q)
      refine lv_iload_n hx hb d_U_power_9 rfl (lv_at hl 3 rfl) ?_
      refine lv_if_lt (tgt := 18) hx hb d_U_power_10 (by decide) (fun c10 => ?_) (fun c10 => ?_)
      · exact x_throw hx hb hlt hown hts (by decide +kernel) xA_k xA_i xA_g xA_b xA_o hX hH hX.2.2.2.2.2.1 hsz hU (hl.1.trans hml.symm) d_U_power_18 d_U_power_21 d_U_power_22 d_U_power_24 d_U_power_27 ht hlocks (by decide) (by decide) (by decide) (by decide)
      · have h10 : ¬ w9.toInt < 0 := fun q => c10 (Int32.lt_iff_toInt_lt.mpr q)
        refine lv_iload_n hx hb d_U_power_13 rfl (lv_at hl 3 rfl) ?_
        refine lv_iconst (v := 1) hx hb d_U_power_14 (by decide) ?_
        refine lv_icmp_le (tgt := 28) hx hb d_U_power_15 (by decide) (fun c15 => ?_) (fun c15 => ?_)
        · exact absurd (Int32.le_iff_toInt_le.mp c15) (by rw [show (1 : Int32).toInt = 1 from rfl]; omega)
        · exact x_throw hx hb hlt hown hts (by decide +kernel) xA_k xA_i xA_g xA_b xA_o hX hH hX.2.2.2.2.2.1 hsz hU (hl.1.trans hml.symm) d_U_power_18 d_U_power_21 d_U_power_22 d_U_power_24 d_U_power_27 ht hlocks (by decide) (by decide) (by decide) (by decide)
