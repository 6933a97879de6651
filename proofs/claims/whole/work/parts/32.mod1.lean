/-! UnitFinderModel: digits, and what is done with rows of them -/
def dv (f : Nat → Int32) (i : Nat) : Nat → Nat
  | 0 => 0
  | n + 1 => dv f i n + wn (f (1100 * i + n)) * 65536 ^ n
theorem dv_s (f : Nat → Int32) (i n : Nat) : dv f i (n + 1) = dv f i n + wn (f (1100 * i + n)) * 65536 ^ n := rfl
def dgOk (f : Nat → Int32) : Prop := ∀ q, q < 12100 → wn (f q) < 65536
def rv (f : Nat → Int32) (i : Nat) : Nat := dv f i 1100
noncomputable def WW : Nat := Classical.choose (⟨65536 ^ 1100, rfl⟩ : ∃ n : Nat, n = 65536 ^ 1100)
theorem WW_def : WW = 65536 ^ 1100 := Classical.choose_spec (⟨65536 ^ 1100, rfl⟩ : ∃ n : Nat, n = 65536 ^ 1100)
theorem dv_congr {f g : Nat → Int32} {i j : Nat} : ∀ {n : Nat}, (∀ k, k < n → f (1100 * i + k) = g (1100 * j + k)) → dv f i n = dv g j n := by
  intro n
  induction n with
  | zero => intro _; rfl
  | succ n ih => intro h; rw [dv_s, dv_s, ih (fun k hk => h k (by omega)), h n (by omega)]
theorem dv_lt {f : Nat → Int32} {i : Nat} (hi : i < 11) (h : dgOk f) : ∀ n, n ≤ 1100 → dv f i n < 65536 ^ n := by
  intro n
  induction n with
  | zero => intro _; exact Nat.one_pos
  | succ n ih =>
    intro hn
    have h1 := h (1100 * i + n) (by omega)
    have h0 := ih (by omega)
    have h2 : (wn (f (1100 * i + n)) + 1) * 65536 ^ n ≤ 65536 * 65536 ^ n := Nat.mul_le_mul_right _ (by omega)
    rw [Nat.add_mul, Nat.one_mul] at h2
    rw [dv_s, Nat.pow_succ]
    omega
theorem rv_lt {f : Nat → Int32} {i : Nat} (hi : i < 11) (h : dgOk f) : rv f i < WW := by rw [WW_def]; exact dv_lt hi h 1100 (Nat.le_refl _)
theorem dg_int {x : Int32} (h : wn x < 65536) : x.toInt = (wn x : Int) := by
  have := wn_int x
  rw [if_pos (by omega)] at this
  exact this
/-- outside row 'to' nothing has changed -/
def rsm (f g : Nat → Int32) (to : Nat) : Prop := ∀ q, (q < 1100 * to ∨ 1100 * to + 1100 ≤ q) → g q = f q
theorem rsm.rv {f g : Nat → Int32} {to i : Nat} (h : rsm f g to) (hi : i ≠ to) : rv g i = rv f i := dv_congr fun k hk => h _ (by omega)
theorem mF_mF (g : SM) (a b : Nat → Int32) : mF (mF g a) b = mF g b := rfl
theorem mF_self (g : SM) : mF g g.2.2.2.2.2 = g := rfl
set_option maxHeartbeats 4000000 in
set_option maxRecDepth 100000 in
theorem cm_get (l : Launch) (z : YM) (sz : Nat) (g : SM) {i k : Nat} (hi : i < 11) (hk : k < 1100) : Met l y_M_get (zw y_M_get b_M_get 3 (some .int)) { frames := 0, cells := 0, slots := 0, locals := 0 } (va_Pc [.ref (oM z), .int (nI i), .int (nI k)] (mI z g sz)) (va_Qi (fun r g2 => g2 = g ∧ r = g.2.2.2.2.2 (1100 * i + k)) (mO z sz) (yA z sz)) 0 0 (yA z sz) := by
  refine m_ofW (by decide) (Nat.le_of_ble_eq_true rfl) (fun p e s m below meth c hx hb hr hml hown hts hlocks hname hsz ls hU hl => ?_)
  have hl : lv_has ls 3 [(0, .ref (oM z)), (1, .int (nI i)), (2, .int (nI k))] := hl
  refine lv_aload_n hx hb d_M_get_0 rfl (lv_at hl 0 rfl) ?_
  refine va_get (D := z.1) (ci := 3) (v := .ref (aM z)) (C := R_M) (T := F_M) (N := 9) hx hb hts in_M hown hU.2.1 hU.1 0 rfl rfl 4 (by decide) (hts _ k_M_15) (fun _ h9 => h9) rfl d_M_get_1 ?_
  refine lv_sipush (v := 1100) hx hb d_M_get_4 (by decide) ?_
  refine lv_iload_n hx hb d_M_get_7 rfl (lv_at hl 1 rfl) ?_
  refine lv_imul hx hb d_M_get_8 ?_
  refine lv_topi (fun x8 ex8 => ?_)
  refine lv_iload_n hx hb d_M_get_9 rfl (lv_at hl 2 rfl) ?_
  refine lv_iadd hx hb d_M_get_10 ?_
  refine lv_topi (fun x10 ex10 => ?_)
  have e10 : x10 = nI (1100 * i + k) := by rw [ex10, ex8, show (1100 : Int32) = nI 1100 from rfl, pk_mul, nI_add]
  have hin11 : vp_in x10 12100 := by rw [e10]; exact vp_in_nI (by omega) (by decide)
  refine va_iald hx hb hU.2.1 hU.1 1 0 rfl rfl hin11 d_M_get_11 ?_
  refine lv_topi (fun x11 ex11 => ?_)
  exact m_iret hx hb hr hlocks hsz hU ⟨rfl, by rw [ex11, e10, nI_clamp (by omega)]⟩ d_M_get_12
set_option maxHeartbeats 4000000 in
set_option maxRecDepth 100000 in
theorem cm_put (l : Launch) (z : YM) (sz : Nat) (g : SM) {i k : Nat} (hi : i < 11) (hk : k < 1100) (v : Int32) : Met l y_M_put (zw y_M_put b_M_put 4 none) { frames := 0, cells := 0, slots := 0, locals := 0 } (va_Pc [.ref (oM z), .int (nI i), .int (nI k), .int v] (mI z g sz)) (va_Qv (fun g2 => g2 = mF g (upd g.2.2.2.2.2 (1100 * i + k) v)) (mO z sz) (yA z sz)) 0 0 (yA z sz) := by
  refine m_ofW (by decide) (Nat.le_of_ble_eq_true rfl) (fun p e s m below meth c hx hb hr hml hown hts hlocks hname hsz ls hU hl => ?_)
  have hl : lv_has ls 4 [(0, .ref (oM z)), (1, .int (nI i)), (2, .int (nI k)), (3, .int v)] := hl
  refine lv_aload_n hx hb d_M_put_0 rfl (lv_at hl 0 rfl) ?_
  refine va_get (D := z.1) (ci := 3) (v := .ref (aM z)) (C := R_M) (T := F_M) (N := 9) hx hb hts in_M hown hU.2.1 hU.1 0 rfl rfl 4 (by decide) (hts _ k_M_15) (fun _ h9 => h9) rfl d_M_put_1 ?_
  refine lv_sipush (v := 1100) hx hb d_M_put_4 (by decide) ?_
  refine lv_iload_n hx hb d_M_put_7 rfl (lv_at hl 1 rfl) ?_
  refine lv_imul hx hb d_M_put_8 ?_
  refine lv_topi (fun x8 ex8 => ?_)
  refine lv_iload_n hx hb d_M_put_9 rfl (lv_at hl 2 rfl) ?_
  refine lv_iadd hx hb d_M_put_10 ?_
  refine lv_topi (fun x10 ex10 => ?_)
  refine lv_iload_n hx hb d_M_put_11 rfl (lv_at hl 3 rfl) ?_
  have e10 : x10 = nI (1100 * i + k) := by rw [ex10, ex8, show (1100 : Int32) = nI 1100 from rfl, pk_mul, nI_add]
  have hin12 : vp_in x10 12100 := by rw [e10]; exact vp_in_nI (by omega) (by decide)
  refine m_iast hx hb hU hin12 d_M_put_12 (fun H locs hU => ?_)
  generalize eg12 : mF g (upd g.2.2.2.2.2 x10.toNatClampNeg v) = g12 at hU
  exact m_vret hx hb hr hlocks hsz hU (by rw [← eg12, e10, nI_clamp (by omega)]) d_M_put_13
set_option maxHeartbeats 4000000 in
set_option maxRecDepth 100000 in
theorem cm_length (l : Launch) (z : YM) (sz : Nat) (g : SM) {i : Nat} (hi : i < 11) : Met l y_M_length (zw y_M_length b_M_length 3 (some .int)) { frames := 1, cells := 0, slots := 0, locals := 22 } (va_Pc [.ref (oM z), .int (nI i)] (mI z g sz)) (va_Qi (fun r g2 => g2 = g ∧ ∃ n, n ≤ 1100 ∧ r = nI n ∧ (∀ k, n ≤ k → k < 1100 → g.2.2.2.2.2 (1100 * i + k) = 0) ∧ (n = 0 ∨ g.2.2.2.2.2 (1100 * i + (n - 1)) ≠ 0)) (mO z sz) (yA z sz)) 0 0 (yA z sz) := by
  refine m_ofW (by decide) (Nat.le_of_ble_eq_true rfl) (fun p e s m below meth c hx hb hr hml hown hts hlocks hname hsz ls hU hl => ?_)
  have hl : lv_has ls 3 [(0, .ref (oM z)), (1, .int (nI i))] := hl
  have K : ∀ (n : Nat) (H : Heap) (locs : List Loc) (ls : Array Slot), n ≤ 1100 → (∀ k, n ≤ k → k < 1100 → g.2.2.2.2.2 (1100 * i + k) = 0) → Ms z g s.heap H locs s → lv_has ls 3 [(0, .ref (oM z)), (1, .int (nI i)), (2, .int (nI n))] → W p l e ({ frames := 1, cells := 0, slots := 0, locals := 22 } : Room) s m ([.ref (oM z), .int (nI i)] : List Value).toArray below meth c H locs 0 0 (MQ below (va_Qi (fun r g2 => g2 = g ∧ ∃ n, n ≤ 1100 ∧ r = nI n ∧ (∀ k, n ≤ k → k < 1100 → g.2.2.2.2.2 (1100 * i + k) = 0) ∧ (n = 0 ∨ g.2.2.2.2.2 (1100 * i + (n - 1)) ≠ 0)) (mO z sz) (yA z sz)) ([.ref (oM z), .int (nI i)] : List Value).toArray s 0 0 (yA z sz)) (F0 m 4 ls []) := by
    intro n
    induction n with
    | zero =>
      intro H locs ls hn hz hU hl
      refine lv_iload_n hx hb d_M_length_4 rfl (lv_at hl 2 rfl) ?_
      refine lv_if_le (tgt := 25) hx hb d_M_length_5 (by decide) (fun c5 => ?_) (fun c5 => ?_)
      · refine lv_iload_n hx hb d_M_length_25 rfl (lv_at hl 2 rfl) ?_
        exact m_iret hx hb hr hlocks hsz hU ⟨rfl, 0, hn, rfl, hz, Or.inl rfl⟩ d_M_length_26
      · exact absurd (by decide) c5
    | succ n ih =>
      intro H locs ls hn hz hU hl
      refine lv_iload_n hx hb d_M_length_4 rfl (lv_at hl 2 rfl) ?_
      refine lv_if_le (tgt := 25) hx hb d_M_length_5 (by decide) (fun c5 => ?_) (fun c5 => ?_)
      · exact absurd c5 (nI_nle (by omega) (by omega))
      · refine lv_aload_n hx hb d_M_length_8 rfl (lv_at hl 0 rfl) ?_
        refine lv_iload_n hx hb d_M_length_9 rfl (lv_at hl 1 rfl) ?_
        refine lv_iload_n hx hb d_M_length_10 rfl (lv_at hl 2 rfl) ?_
        refine lv_iconst (v := 1) hx hb d_M_length_11 (by decide) ?_
        refine lv_isub hx hb d_M_length_12 ?_
        refine lv_topi (fun x12 ex12 => ?_)
        have e12 : x12 = nI n := by rw [ex12]; exact nI_pred n
        rw [e12]
        refine m_calli (m_run (As := [.int (nI i), .int (nI n)]) (rest := []) hx hb hml hown hts hU (cm_get l z _ g hi (k := n) (by omega)) (w_M_get_cw hts k_M_33 rfl rfl ⟨Nat.le_of_ble_eq_true rfl, Nat.le_of_ble_eq_true rfl⟩) (m_recv hU) rfl hl.1 rfl (lv_room (Nat.le_of_ble_eq_true rfl)) d_M_length_13 ⟨Nat.zero_le _, Nat.zero_le _⟩) hU (fun r13 g13 H locs hp hU => ?_)
        obtain ⟨q1, q2⟩ := hp
        rw [q1] at hU
        refine lv_if_ne (tgt := 25) hx hb d_M_length_16 (by decide) (fun c16 => ?_) (fun c16 => ?_)
        · refine lv_iload_n hx hb d_M_length_25 rfl (lv_at hl 2 rfl) ?_
          exact m_iret hx hb hr hlocks hsz hU ⟨rfl, n + 1, hn, rfl, hz, Or.inr (by rw [Nat.add_sub_cancel, ← q2]; exact c16)⟩ d_M_length_26
        · obtain ⟨x19, ex19⟩ : ∃ y : Int32, y = (nI (n + 1)) + Int32.ofInt (-1) := ⟨_, rfl⟩
          refine lv_iinc (v := x19) (lv' := [(2, .int x19), (0, .ref (oM z)), (1, .int (nI i))]) hx hb d_M_length_19 hl (k := 2) rfl (by rw [ex19]) (by decide) rfl (fun ls hl => ?_)
          refine lv_goto (tgt := 4) hx hb d_M_length_22 (by decide) ?_
          rw [ex19, show Int32.ofInt (-1) = -1 from rfl, pk_m1] at hl
          exact ih _ _ ls (by omega) (fun k h1 h2 => by
            by_cases h3 : k = n
            · rw [h3, ← q2]; exact c16
            · exact hz k (by omega) h2) hU (lv_sub hl [1, 2, 0] rfl)
  refine lv_sipush (v := 1100) hx hb d_M_length_0 (by decide) ?_
  refine lv_istore_n (lv' := [(2, .int 1100), (0, .ref (oM z)), (1, .int (nI i))]) hx hb d_M_length_3 rfl hl (by decide) rfl (fun ls hl => ?_)
  exact K 1100 _ _ ls (Nat.le_refl _) (fun k h1 h2 => by omega) hU (lv_sub hl [1, 2, 0] rfl)
set_option maxHeartbeats 4000000 in
set_option maxRecDepth 100000 in
theorem cm_isBelow (l : Launch) (z : YM) (sz : Nat) (g : SM) {i : Nat} (hi : i < 11) : Met l y_M_isBelow (zw y_M_isBelow b_M_isBelow 2 (some .boolean)) { frames := 1, cells := 0, slots := 0, locals := 22 } (va_Pc [.ref (oM z), .int (nI i)] (mI z g sz)) (va_Qi (fun r g2 => g2 = g ∧ r = (if 32767 < (g.2.2.2.2.2 (1100 * i + 1099)).toInt then 1 else 0)) (mO z sz) (yA z sz)) 0 0 (yA z sz) := by
  refine m_ofW (by decide) (Nat.le_of_ble_eq_true rfl) (fun p e s m below meth c hx hb hr hml hown hts hlocks hname hsz ls hU hl => ?_)
  have hl : lv_has ls 2 [(0, .ref (oM z)), (1, .int (nI i))] := hl
  refine lv_aload_n hx hb d_M_isBelow_0 rfl (lv_at hl 0 rfl) ?_
  refine lv_iload_n hx hb d_M_isBelow_1 rfl (lv_at hl 1 rfl) ?_
  refine lv_sipush (v := 1099) hx hb d_M_isBelow_2 (by decide) ?_
  refine m_calli (m_run (As := [.int (nI i), .int 1099]) (rest := []) hx hb hml hown hts hU (cm_get l z _ g hi (k := 1099) (by decide)) (w_M_get_cw hts k_M_33 rfl rfl ⟨Nat.le_of_ble_eq_true rfl, Nat.le_of_ble_eq_true rfl⟩) (m_recv hU) rfl hl.1 rfl (lv_room (Nat.le_of_ble_eq_true rfl)) d_M_isBelow_5 ⟨Nat.zero_le _, Nat.zero_le _⟩) hU (fun r5 g5 H locs hp hU => ?_)
  obtain ⟨q1, q2⟩ := hp
  rw [q1] at hU
  refine lv_sipush (v := 32767) hx hb d_M_isBelow_8 (by decide) ?_
  refine lv_icmp_le (tgt := 18) hx hb d_M_isBelow_11 (by decide) (fun c11 => ?_) (fun c11 => ?_)
  · have h11 : ¬ 32767 < (g.2.2.2.2.2 (1100 * i + 1099)).toInt := by
      rw [Int32.le_iff_toInt_le, q2, show (32767 : Int32).toInt = 32767 from rfl] at c11
      omega
    refine lv_iconst (v := 0) hx hb d_M_isBelow_18 (by decide) ?_
    exact m_zret hx hb hr hlocks hsz hU (Or.inl rfl) ⟨rfl, by rw [if_neg h11]⟩ d_M_isBelow_19
  · have h11 : 32767 < (g.2.2.2.2.2 (1100 * i + 1099)).toInt := by
      rw [Int32.le_iff_toInt_le, q2, show (32767 : Int32).toInt = 32767 from rfl] at c11
      omega
    refine lv_iconst (v := 1) hx hb d_M_isBelow_14 (by decide) ?_
    refine lv_goto (tgt := 19) hx hb d_M_isBelow_15 (by decide) ?_
    exact m_zret hx hb hr hlocks hsz hU (Or.inr rfl) ⟨rfl, by rw [if_pos h11]⟩ d_M_isBelow_19
set_option maxHeartbeats 4000000 in
set_option maxRecDepth 100000 in
theorem cm_copy (l : Launch) (z : YM) (sz : Nat) (g : SM) {to fr : Nat} (ht : to < 11) (hf : fr < 11) (hne : fr ≠ to) (hok : dgOk g.2.2.2.2.2) : Met l y_M_copy (zw y_M_copy b_M_copy 4 none) { frames := 1, cells := 0, slots := 0, locals := 23 } (va_Pc [.ref (oM z), .int (nI to), .int (nI fr)] (mI z g sz)) (va_Qv (fun g2 => ∃ f, g2 = mF g f ∧ dgOk f ∧ rsm g.2.2.2.2.2 f to ∧ rv f to = rv g.2.2.2.2.2 fr) (mO z sz) (yA z sz)) 0 0 (yA z sz) := by
  refine m_ofW (by decide) (Nat.le_of_ble_eq_true rfl) (fun p e s m below meth c hx hb hr hml hown hts hlocks hname hsz ls hU hl => ?_)
  have hl : lv_has ls 4 [(0, .ref (oM z)), (1, .int (nI to)), (2, .int (nI fr))] := hl
  obtain ⟨F, eF⟩ : ∃ y, y = g.2.2.2.2.2 := ⟨_, rfl⟩
  have K : ∀ (d k : Nat) (f : Nat → Int32) (H : Heap) (locs : List Loc) (ls : Array Slot), k + d = 1100 → (∀ q, (q < 1100 * to ∨ 1100 * to + k ≤ q) → f q = F q) → (∀ q, q < k → f (1100 * to + q) = F (1100 * fr + q)) → Ms z (mF g f) s.heap H locs s → lv_has ls 4 [(0, .ref (oM z)), (1, .int (nI to)), (2, .int (nI fr)), (3, .int (nI k))] → W p l e ({ frames := 1, cells := 0, slots := 0, locals := 23 } : Room) s m ([.ref (oM z), .int (nI to), .int (nI fr)] : List Value).toArray below meth c H locs 0 0 (MQ below (va_Qv (fun g2 => ∃ f, g2 = mF g f ∧ dgOk f ∧ rsm g.2.2.2.2.2 f to ∧ rv f to = rv g.2.2.2.2.2 fr) (mO z sz) (yA z sz)) ([.ref (oM z), .int (nI to), .int (nI fr)] : List Value).toArray s 0 0 (yA z sz)) (F0 m 2 ls []) := by
    intro d
    induction d with
    | zero =>
      intro k f H locs ls hk h1 h2 hU hl
      have hk : k = 1100 := by omega
      subst hk
      refine lv_iload_n hx hb d_M_copy_2 rfl (lv_at hl 3 rfl) ?_
      refine lv_sipush (v := 1100) hx hb d_M_copy_3 (by decide) ?_
      refine lv_icmp_ge (tgt := 27) hx hb d_M_copy_6 (by decide) (fun c6 => ?_) (fun c6 => ?_)
      · subst eF
        exact m_vret hx hb hr hlocks hsz hU ⟨f, rfl, fun q hq => by
          by_cases h : q < 1100 * to ∨ 1100 * to + 1100 ≤ q
          · rw [h1 q h]; exact hok q hq
          · obtain ⟨w, rfl⟩ : ∃ w, q = 1100 * to + w := ⟨q - 1100 * to, by omega⟩
            rw [h2 w (by omega)]; exact hok _ (by omega), h1, dv_congr h2⟩ d_M_copy_27
      · exact absurd (Int32.le_refl _) c6
    | succ d ih =>
      intro k f H locs ls hk h1 h2 hU hl
      refine lv_iload_n hx hb d_M_copy_2 rfl (lv_at hl 3 rfl) ?_
      refine lv_sipush (v := 1100) hx hb d_M_copy_3 (by decide) ?_
      refine lv_icmp_ge (tgt := 27) hx hb d_M_copy_6 (by decide) (fun c6 => ?_) (fun c6 => ?_)
      · exact absurd c6 (nI_ge (a := k) (b := 1100) (by omega) (by decide))
      · refine lv_aload_n hx hb d_M_copy_9 rfl (lv_at hl 0 rfl) ?_
        refine lv_iload_n hx hb d_M_copy_10 rfl (lv_at hl 1 rfl) ?_
        refine lv_iload_n hx hb d_M_copy_11 rfl (lv_at hl 3 rfl) ?_
        refine lv_aload_n hx hb d_M_copy_12 rfl (lv_at hl 0 rfl) ?_
        refine lv_iload_n hx hb d_M_copy_13 rfl (lv_at hl 2 rfl) ?_
        refine lv_iload_n hx hb d_M_copy_14 rfl (lv_at hl 3 rfl) ?_
        refine m_calli (m_run (As := [.int (nI fr), .int (nI k)]) (rest := [.int (nI k), .int (nI to), .ref (oM z)]) hx hb hml hown hts hU (cm_get l z _ (mF g f) hf (k := k) (by omega)) (w_M_get_cw hts k_M_33 rfl rfl ⟨Nat.le_of_ble_eq_true rfl, Nat.le_of_ble_eq_true rfl⟩) (m_recv hU) rfl hl.1 rfl (lv_room (Nat.le_of_ble_eq_true rfl)) d_M_copy_15 ⟨Nat.zero_le _, Nat.zero_le _⟩) hU (fun r15 g15 H locs hp hU => ?_)
        obtain ⟨rfl, q2⟩ := hp
        refine m_callv (m_run (As := [.int (nI to), .int (nI k), .int r15]) (rest := []) hx hb hml hown hts hU (cm_put l z _ (mF g f) ht (k := k) (by omega) r15) (w_M_put_cw hts k_M_29 rfl rfl ⟨Nat.le_of_ble_eq_true rfl, Nat.le_of_ble_eq_true rfl⟩) (m_recv hU) rfl hl.1 rfl (lv_room (Nat.le_of_ble_eq_true rfl)) d_M_copy_18 ⟨Nat.zero_le _, Nat.zero_le _⟩) hU (fun g18 H locs hp hU => ?_)
        subst hp
        obtain ⟨x21, ex21⟩ : ∃ y : Int32, y = (nI k) + Int32.ofInt 1 := ⟨_, rfl⟩
        refine lv_iinc (v := x21) (lv' := [(3, .int x21), (0, .ref (oM z)), (1, .int (nI to)), (2, .int (nI fr))]) hx hb d_M_copy_21 hl (k := 3) rfl (by rw [ex21]) (by decide) rfl (fun ls hl => ?_)
        refine lv_goto (tgt := 2) hx hb d_M_copy_24 (by decide) ?_
        rw [ex21, show Int32.ofInt 1 = 1 from rfl, nI_1] at hl
        have q2 : r15 = F (1100 * fr + k) := by rw [q2]; exact h1 _ (by omega)
        exact ih (k + 1) (upd f (1100 * to + k) r15) _ _ ls (by omega) (fun q hq => by rw [pk_un (by omega)]; exact h1 q (by omega)) (fun q hq => by
          by_cases h : q = k
          · rw [h, pk_us, q2]
          · rw [pk_un (by omega)]; exact h2 q (by omega)) hU (lv_sub hl [1, 2, 3, 0] rfl)
  refine lv_iconst (v := 0) hx hb d_M_copy_0 (by decide) ?_
  refine lv_istore_n (lv' := [(3, .int 0), (0, .ref (oM z)), (1, .int (nI to)), (2, .int (nI fr))]) hx hb d_M_copy_1 rfl hl (by decide) rfl (fun ls hl => ?_)
  exact K 1100 0 F _ _ ls (by decide) (fun _ _ => rfl) (fun q h => by omega) (by rw [eF]; exact hU) (lv_sub hl [1, 2, 3, 0] rfl)
