/-! UnitFinderModel: its public methods -/
theorem mS.keep {g : SM} {d a b c : Int} {f : Nat → Int32} (h : mS g d a b c) (h1 : dgOk f) (h2 : rsm g.2.2.2.2.2 f 10) : mS (mF g f) d a b c := by
  obtain ⟨p1, p2, p3, p4, ⟨p5, p6, p7, p8⟩, p9, p10, p11, p12⟩ := h
  exact ⟨p1, p2, p3, h1, ⟨(h2.sv (by decide)).trans p5, (h2.sv (by decide)).trans p6, (h2.sv (by decide)).trans p7, (h2.sv (by decide)).trans p8⟩, (h2.sv (by decide)).trans p9, (h2.sv (by decide)).trans p10, (h2.sv (by decide)).trans p11, (h2.sv (by decide)).trans p12⟩
theorem mS.code {g : SM} {d a b c : Int} {v : Int32} (h : mS g d a b c) : mS (mC g v) d a b c := h
theorem mS.xs {g : SM} {d a b c : Int} {k : Nat} {v : Int64} (h : mS g d a b c) : mS (mX g k v) d a b c := h
set_option maxHeartbeats 4000000 in
set_option maxRecDepth 100000 in
theorem cm_thrown (l : Launch) (z : YM) (sz : Nat) (g : SM)  : Met l y_M_thrown (zw y_M_thrown b_M_thrown 1 (some .int)) { frames := 0, cells := 0, slots := 0, locals := 0 } (va_Pc [.ref (oM z)] (mI z g sz)) (va_Qi (fun r g2 => g2 = g ∧ r = g.1) (mO z sz) (yA z sz)) 0 0 (yA z sz) := by
  refine m_ofW (by decide) (Nat.le_of_ble_eq_true rfl) (fun p e s m below meth c hx hb hr hml hown hts hlocks hname hsz ls hU hl => ?_)
  have hl : lv_has ls 1 [(0, .ref (oM z))] := hl
  refine lv_aload_n hx hb d_M_thrown_0 rfl (lv_at hl 0 rfl) ?_
  refine va_get (D := z.1) (ci := 3) (v := .int g.1) (C := R_M) (T := F_M) (N := 9) hx hb hts in_M hown hU.2.1 hU.1 0 rfl rfl 0 (by decide) (hts _ k_M_23) (fun _ h9 => h9) rfl d_M_thrown_1 ?_
  refine lv_topi (fun x1 ex1 => ?_)
  exact m_iret hx hb hr hlocks hsz hU ⟨rfl, ex1⟩ d_M_thrown_4
set_option maxHeartbeats 4000000 in
set_option maxRecDepth 100000 in
theorem cm_raise (l : Launch) (z : YM) (sz : Nat) (g : SM) (k : Int32) : Met l y_M_raise (zw y_M_raise b_M_raise 2 (some .int)) { frames := 0, cells := 0, slots := 0, locals := 0 } (va_Pc [.ref (oM z), .int k] (mI z g sz)) (va_Qi (fun r g2 => g2 = mC g k) (mO z sz) (yA z sz)) 0 0 (yA z sz) := by
  refine m_ofW (by decide) (Nat.le_of_ble_eq_true rfl) (fun p e s m below meth c hx hb hr hml hown hts hlocks hname hsz ls hU hl => ?_)
  have hl : lv_has ls 2 [(0, .ref (oM z)), (1, .int k)] := hl
  refine lv_aload_n hx hb d_M_raise_0 rfl (lv_at hl 0 rfl) ?_
  refine lv_iload_n hx hb d_M_raise_1 rfl (lv_at hl 1 rfl) ?_
  refine mp_C hx hb hts hown hU (hts _ k_M_23) d_M_raise_2 (fun H locs hU => ?_)
  generalize eg2 : mC g k = g2 at hU
  refine lv_iconst (v := 0) hx hb d_M_raise_5 (by decide) ?_
  exact m_iret hx hb hr hlocks hsz hU (by rw [← eg2]) d_M_raise_6
set_option maxHeartbeats 4000000 in
set_option maxRecDepth 100000 in
theorem cm_isBelow2 (l : Launch) (z : YM) (sz : Nat) (g : SM) {i9 : Int32} {i : Nat} (h9 : i9 = nI i) (hi : i < 11) : Met l y_M_isBelow (zw y_M_isBelow b_M_isBelow 2 (some .boolean)) { frames := 1, cells := 0, slots := 0, locals := 22 } (va_Pc [.ref (oM z), .int i9] (mI z g sz)) (va_Qi (fun r g2 => g2 = g ∧ r = (if 32767 < (g.2.2.2.2.2 (1100 * i + 1099)).toInt then 1 else 0)) (mO z sz) (yA z sz)) 0 0 (yA z sz) := by
  subst h9
  exact cm_isBelow l z sz g hi
set_option maxHeartbeats 4000000 in
set_option maxRecDepth 100000 in
theorem cm_length2 (l : Launch) (z : YM) (sz : Nat) (g : SM) {i9 : Int32} {i : Nat} (h9 : i9 = nI i) (hi : i < 11) : Met l y_M_length (zw y_M_length b_M_length 3 (some .int)) { frames := 1, cells := 0, slots := 0, locals := 22 } (va_Pc [.ref (oM z), .int i9] (mI z g sz)) (va_Qi (fun r g2 => g2 = g ∧ ∃ n, n ≤ 1100 ∧ r = nI n ∧ (∀ k, n ≤ k → k < 1100 → g.2.2.2.2.2 (1100 * i + k) = 0) ∧ (n = 0 ∨ g.2.2.2.2.2 (1100 * i + (n - 1)) ≠ 0)) (mO z sz) (yA z sz)) 0 0 (yA z sz) := by
  subst h9
  exact cm_length l z sz g hi
set_option maxHeartbeats 4000000 in
set_option maxRecDepth 100000 in
theorem cm_bitsOf2 (l : Launch) (z : YM) (sz : Nat) (g : SM) {i9 : Int32} {i : Nat} (h9 : i9 = nI i) (hi : i < 10) (hok : dgOk g.2.2.2.2.2) : Met l y_M_bitsOf (zw y_M_bitsOf b_M_bitsOf 5 (some .int)) { frames := 3, cells := 0, slots := 0, locals := 76 } (va_Pc [.ref (oM z), .int i9] (mI z g sz)) (va_Qi (fun r g2 => ∃ f, g2 = mF g f ∧ dgOk f ∧ rsm g.2.2.2.2.2 f 10 ∧ r = nI (bl (sv g.2.2.2.2.2 i).natAbs)) (mO z sz) (yA z sz)) 0 0 (yA z sz) := by
  subst h9
  exact cm_bitsOf l z sz g hi hok
set_option maxHeartbeats 4000000 in
set_option maxRecDepth 100000 in
theorem cm_sized2 (l : Launch) (z : YM) (sz : Nat) (g : SM) {i9 : Int32} {i : Nat} (h9 : i9 = nI i) (hi : i < 10) (hok : dgOk g.2.2.2.2.2) : Met l y_M_sized (zw y_M_sized b_M_sized 2 (some .int)) { frames := 2, cells := 0, slots := 0, locals := 55 } (va_Pc [.ref (oM z), .int i9] (mI z g sz)) (va_Qi (fun r g2 => ∃ f n, g2 = mF g f ∧ dgOk f ∧ rsm g.2.2.2.2.2 f 10 ∧ rv f 10 = (sv g.2.2.2.2.2 i).natAbs ∧ r = nI n ∧ n ≤ 1100 ∧ (∀ k, n ≤ k → k < 1100 → f (1100 * 10 + k) = 0) ∧ (n = 0 ∨ f (1100 * 10 + (n - 1)) ≠ 0)) (mO z sz) (yA z sz)) 0 0 (yA z sz) := by
  subst h9
  exact cm_sized l z sz g hi hok
set_option maxHeartbeats 4000000 in
set_option maxRecDepth 100000 in
theorem cm_left2 (l : Launch) (z : YM) (sz : Nat) (g : SM) {i9 : Int32} {m9 : Int64} {i : Nat} (h9 : i9 = nI i) (hi : i < 10) (hok : dgOk g.2.2.2.2.2) {M : Nat} (h8 : m9 = lN M) (hM0 : 0 < M) (hM : M < 2 ^ 31) : Met l y_M_left (zw y_M_left b_M_left 7 (some .long)) { frames := 3, cells := 0, slots := 0, locals := 76 } (va_Pc [.ref (oM z), .int i9, .long m9] (mI z g sz)) (va_Ql (fun r g2 => ∃ f, g2 = mF g f ∧ dgOk f ∧ rsm g.2.2.2.2.2 f 10 ∧ r.toInt = sv g.2.2.2.2.2 i % (M : Int)) (mO z sz) (yA z sz)) 0 0 (yA z sz) := by
  subst h9
  subst h8
  exact cm_left l z sz g hi hok hM0 hM
set_option maxHeartbeats 4000000 in
set_option maxRecDepth 100000 in
theorem cm_get2 (l : Launch) (z : YM) (sz : Nat) (g : SM) {k9 : Int32} {i k : Nat} (hi : i < 11) (h9 : k9 = nI k) (hk : k < 1100) : Met l y_M_get (zw y_M_get b_M_get 3 (some .int)) { frames := 0, cells := 0, slots := 0, locals := 0 } (va_Pc [.ref (oM z), .int (nI i), .int k9] (mI z g sz)) (va_Qi (fun r g2 => g2 = g ∧ r = g.2.2.2.2.2 (1100 * i + k)) (mO z sz) (yA z sz)) 0 0 (yA z sz) := by
  subst h9
  exact cm_get l z sz g hi hk
set_option maxHeartbeats 4000000 in
set_option maxRecDepth 100000 in
theorem cm_bits (l : Launch) (z : YM) (sz : Nat) (g : SM) (i : Int32) (hok : dgOk g.2.2.2.2.2) : Met l y_M_bits (zw y_M_bits b_M_bits 2 (some .int)) { frames := 4, cells := 0, slots := 0, locals := 100 } (va_Pc [.ref (oM z), .int i] (mI z g sz)) (va_Qi (fun r g2 => ((0 ≤ i.toInt ∧ i.toInt ≤ 7) → (∃ f, g2 = mF (mC g 0) f ∧ dgOk f ∧ rsm g.2.2.2.2.2 f 10) ∧ r = nI (bl (sv g.2.2.2.2.2 i.toInt.toNat).natAbs)) ∧ (¬ (0 ≤ i.toInt ∧ i.toInt ≤ 7) → g2 = mC g 1)) (mO z sz) (yA z sz)) 0 0 (yA z sz) := by
  refine m_ofW (by decide) (Nat.le_of_ble_eq_true rfl) (fun p e s m below meth c hx hb hr hml hown hts hlocks hname hsz ls hU hl => ?_)
  have hl : lv_has ls 2 [(0, .ref (oM z)), (1, .int i)] := hl
  refine lv_aload_n hx hb d_M_bits_0 rfl (lv_at hl 0 rfl) ?_
  refine lv_iload_n hx hb d_M_bits_1 rfl (lv_at hl 1 rfl) ?_
  refine lv_i2l hx hb d_M_bits_2 rfl ?_
  refine lv_topl (fun x2 ex2 => ?_)
  refine lv_lconst (v := 0) hx hb d_M_bits_3 (by decide) ?_
  refine lv_ldc2 (v := 7) hx hb hown (hts _ k_M_134) d_M_bits_4 ?_
  have t2 : x2.toInt = i.toInt := by rw [ex2]; exact Jvm.Kit.i64_of_i32 i
  refine pr_call (As := [.long x2, .long 0, .long 7]) (rest := [.ref (oM z)]) hx hb hml hown hts (cm_in l x2 0 7) (w_M_in_cw hts k_M_88 rfl rfl ⟨Nat.le_of_ble_eq_true rfl, Nat.le_of_ble_eq_true rfl⟩) rfl hl.1 rfl (lv_room (Nat.le_of_ble_eq_true rfl)) d_M_bits_7 ⟨Nat.zero_le _, Nat.zero_le _⟩ ?_
  refine lv_topi (fun x7 ex7 => ?_)
  rw [t2, show (0 : Int64).toInt = 0 from rfl, show (7 : Int64).toInt = 7 from rfl] at ex7
  refine lv_if_eq (tgt := 17) hx hb d_M_bits_10 (by decide) (fun c10 => ?_) (fun c10 => ?_)
  · have h10 : ¬ (0 ≤ i.toInt ∧ i.toInt ≤ 7) := fun q => by rw [ex7, if_pos q] at c10; exact absurd c10 (by decide)
    refine lv_iconst (v := 1) hx hb d_M_bits_17 (by decide) ?_
    refine mp_C hx hb hts hown hU (hts _ k_M_23) d_M_bits_18 (fun H locs hU => ?_)
    generalize eg18 : mC g 1 = g18 at hU
    refine lv_aload_n hx hb d_M_bits_21 rfl (lv_at hl 0 rfl) ?_
    refine va_get (D := z.1) (ci := 3) (v := .int g18.1) (C := R_M) (T := F_M) (N := 9) hx hb hts in_M hown hU.2.1 hU.1 0 rfl rfl 0 (by decide) (hts _ k_M_23) (fun _ h9 => h9) rfl d_M_bits_22 ?_
    refine lv_topi (fun x22 ex22 => ?_)
    have e22 : x22 = 1 := by rw [ex22, ← eg18]; rfl
    refine lv_if_le (tgt := 32) hx hb d_M_bits_25 (by decide) (fun c25 => ?_) (fun c25 => ?_)
    · exact absurd c25 (by rw [e22]; decide)
    · refine lv_iconst (v := 0) hx hb d_M_bits_28 (by decide) ?_
      refine lv_goto (tgt := 37) hx hb d_M_bits_29 (by decide) ?_
      exact m_iret hx hb hr hlocks hsz hU ⟨fun q => absurd q h10, fun _ => by first | exact eg18.symm | rfl⟩ d_M_bits_37
  · have h10 : 0 ≤ i.toInt ∧ i.toInt ≤ 7 := Classical.byContradiction fun q => c10 (by rw [ex7, if_neg q])
    refine lv_iconst (v := 0) hx hb d_M_bits_13 (by decide) ?_
    refine lv_goto (tgt := 18) hx hb d_M_bits_14 (by decide) ?_
    refine mp_C hx hb hts hown hU (hts _ k_M_23) d_M_bits_18 (fun H locs hU => ?_)
    generalize eg18 : mC g 0 = g18 at hU
    refine lv_aload_n hx hb d_M_bits_21 rfl (lv_at hl 0 rfl) ?_
    refine va_get (D := z.1) (ci := 3) (v := .int g18.1) (C := R_M) (T := F_M) (N := 9) hx hb hts in_M hown hU.2.1 hU.1 0 rfl rfl 0 (by decide) (hts _ k_M_23) (fun _ h9 => h9) rfl d_M_bits_22 ?_
    refine lv_topi (fun x22 ex22 => ?_)
    have e22 : x22 = 0 := by rw [ex22, ← eg18]; rfl
    obtain ⟨j, ej⟩ : ∃ j, j = i.toInt.toNat := ⟨_, rfl⟩
    have hij : i = nI j := by apply Int32.toInt_inj.mp; rw [nI_toInt (by omega)]; omega
    have hokc : dgOk g18.2.2.2.2.2 := by rw [← eg18]; exact hok
    refine lv_if_le (tgt := 32) hx hb d_M_bits_25 (by decide) (fun c25 => ?_) (fun c25 => ?_)
    · refine lv_aload_n hx hb d_M_bits_32 rfl (lv_at hl 0 rfl) ?_
      refine lv_iload_n hx hb d_M_bits_33 rfl (lv_at hl 1 rfl) ?_
      refine m_calli (m_run (As := [.int i]) (rest := []) hx hb hml hown hts hU (cm_bitsOf2 l z _ g18 (i := j) hij (by omega) hokc) (w_M_bitsOf_cw hts k_M_92 rfl rfl ⟨Nat.le_of_ble_eq_true rfl, Nat.le_of_ble_eq_true rfl⟩) (m_recv hU) rfl hl.1 rfl (lv_room (Nat.le_of_ble_eq_true rfl)) d_M_bits_34 ⟨Nat.zero_le _, Nat.zero_le _⟩) hU (fun r34 g34 H locs hp hU => ?_)
      obtain ⟨f, k1, k2, k3, k4⟩ := hp
      exact m_iret hx hb hr hlocks hsz hU ⟨fun _ => ⟨⟨f, by rw [k1]; try rw [← eg18], k2, by rw [← eg18] at k3; exact k3⟩, by rw [k4, ← ej, ← eg18]; rfl⟩, fun q => absurd h10 q⟩ d_M_bits_37
    · exact absurd (by rw [e22]; decide) c25
