/-! UnitFinderModel: bits, residues, matrices, the automorph -/
def bl (v : Nat) : Nat := if v = 0 then 0 else Nat.log2 v + 1
theorem bl_half {v : Nat} (h : 0 < v) : bl v = bl (v / 2) + 1 := by
  unfold bl
  rw [if_neg (by omega), Nat.log2_def]
  split
  · rename_i q; rw [if_neg (by omega)]
  · rename_i q; rw [if_pos (by omega)]
theorem bl_top {low T s : Nat} (h1 : low < 2 ^ s) (h2 : 0 < T) : bl (low + T * 2 ^ s) = s + bl T := by
  have hp := Nat.two_pow_pos s
  have h3 : 1 * 2 ^ s ≤ T * 2 ^ s := Nat.mul_le_mul_right _ h2
  unfold bl
  rw [if_neg (by omega), if_neg (by omega)]
  have h4 : Nat.log2 (low + T * 2 ^ s) = s + Nat.log2 T := by
    rw [Nat.log2_eq_iff (by omega)]
    have h5 := Nat.log2_self_le (n := T) (by omega)
    have h6 := Nat.lt_log2_self (n := T)
    constructor
    · rw [Nat.pow_add, Nat.mul_comm]
      have := Nat.mul_le_mul_right (2 ^ s) h5
      omega
    · rw [show s + T.log2 + 1 = (T.log2 + 1) + s by omega, Nat.pow_add]
      have := Nat.mul_le_mul_right (2 ^ s) (show T + 1 ≤ 2 ^ (T.log2 + 1) from h6)
      rw [Nat.add_mul, Nat.one_mul] at this
      omega
  omega
theorem dv_zero {f : Nat → Int32} {i a : Nat} : ∀ {n : Nat}, a ≤ n → (∀ k, a ≤ k → k < n → f (1100 * i + k) = 0) → dv f i n = dv f i a := by
  intro n
  induction n with
  | zero => intro q _; rw [Nat.le_zero.mp q]
  | succ n ih =>
    intro q w
    rcases Nat.lt_or_ge n a with h1 | h1
    · rw [show a = n + 1 by omega]
    · rw [dv_s, w n h1 (by omega), wn_0, Nat.zero_mul, Nat.add_zero]; exact ih h1 (fun m a b => w m a (by omega))
theorem dv_hi {f : Nat → Int32} {i n k : Nat} (hi : i < 11) (h : dgOk f) (hn : n ≤ 1100) (hk : n ≤ k) : dv f i n / 65536 ^ k = 0 :=
  Nat.div_eq_of_lt (Nat.lt_of_lt_of_le (dv_lt hi h n hn) (Nat.pow_le_pow_right (by decide) hk))
theorem dv_word {f : Nat → Int32} {i : Nat} (hi : i < 11) (h : dgOk f) (k : Nat) : ∀ n, k < n → n ≤ 1100 → dv f i n / 65536 ^ k % 65536 = wn (f (1100 * i + k)) := by
  intro n
  induction n with
  | zero => intro h; omega
  | succ n ih =>
    intro h1 h2
    have hp : 0 < 65536 ^ k := Nat.pow_pos (by decide)
    rw [dv_s]
    rcases Nat.lt_or_ge k n with h3 | h3
    · obtain ⟨d, rfl⟩ : ∃ d, n = k + 1 + d := ⟨n - k - 1, by omega⟩
      have e : wn (f (1100 * i + (k + 1 + d))) * 65536 ^ (k + 1 + d) = 65536 ^ k * (65536 * (wn (f (1100 * i + (k + 1 + d))) * 65536 ^ d)) := by
        rw [Nat.pow_add, Nat.pow_succ]
        ac_rfl
      rw [e, Nat.add_mul_div_left _ _ hp, Nat.add_mul_mod_self_left]
      exact ih h3 (by omega)
    · have e : k = n := by omega
      subst e
      rw [Nat.add_mul_div_right _ _ hp, dv_hi hi h (by omega) (Nat.le_refl k), Nat.zero_add]
      exact Nat.mod_eq_of_lt (h _ (by omega))
theorem dv_divw {f : Nat → Int32} {i n q M : Nat} (hi : i < 11) (h : dgOk f) (hn : n ≤ 1100) (hq : q < n) : (dv f i n / 65536 ^ (q + 1) % M * 65536 + wn (f (1100 * i + q))) % M = dv f i n / 65536 ^ q % M := by
  have e := Nat.div_add_mod (dv f i n / 65536 ^ q) 65536
  rw [dv_word hi h q n hq hn, Nat.div_div_eq_div_mul, ← Nat.pow_succ] at e
  rw [← e, Nat.add_mod, Nat.mod_mul_mod, ← Nat.add_mod, Nat.mul_comm]
theorem neg_abs {x : Int} (h : x ≤ 0) : x = -((x.natAbs : Nat) : Int) := by omega
theorem sv_np {f : Nat → Int32} {i : Nat} (h : ¬ rv f i < HW) (h2 : rv f i < WW) : sv f i ≤ 0 := by
  unfold sv
  rw [if_neg h]
  have h3 : (rv f i : Int) < (WW : Int) := Int.ofNat_lt.mpr h2
  generalize (rv f i : Int) = R at h3
  generalize (WW : Int) = Q at h3
  omega
set_option maxHeartbeats 4000000 in
set_option maxRecDepth 100000 in
theorem cm_bitsOf (l : Launch) (z : YM) (sz : Nat) (g : SM) {i : Nat} (hi : i < 10) (hok : dgOk g.2.2.2.2.2) : Met l y_M_bitsOf (zw y_M_bitsOf b_M_bitsOf 5 (some .int)) { frames := 3, cells := 0, slots := 0, locals := 76 } (va_Pc [.ref (oM z), .int (nI i)] (mI z g sz)) (va_Qi (fun r g2 => ∃ f, g2 = mF g f ∧ dgOk f ∧ rsm g.2.2.2.2.2 f 10 ∧ r = nI (bl (sv g.2.2.2.2.2 i).natAbs)) (mO z sz) (yA z sz)) 0 0 (yA z sz) := by
  refine m_ofW (by decide) (Nat.le_of_ble_eq_true rfl) (fun p e s m below meth c hx hb hr hml hown hts hlocks hname hsz ls hU hl => ?_)
  have hl : lv_has ls 5 [(0, .ref (oM z)), (1, .int (nI i))] := hl
  have K : ∀ (T k : Nat) (f : Nat → Int32) (x2 : Int32) (H : Heap) (locs : List Loc) (ls : Array Slot), T < 65536 → dgOk f → rsm g.2.2.2.2.2 f 10 → k + bl T = bl (sv g.2.2.2.2.2 i).natAbs → Ms z (mF g f) s.heap H locs s → lv_has ls 5 [(0, .ref (oM z)), (1, .int (nI i)), (2, .int x2), (3, .int (nI k)), (4, .int (nI T))] → W p l e ({ frames := 3, cells := 0, slots := 0, locals := 76 } : Room) s m ([.ref (oM z), .int (nI i)] : List Value).toArray below meth c H locs 0 0 (MQ below (va_Qi (fun r g2 => ∃ f, g2 = mF g f ∧ dgOk f ∧ rsm g.2.2.2.2.2 f 10 ∧ r = nI (bl (sv g.2.2.2.2.2 i).natAbs)) (mO z sz) (yA z sz)) ([.ref (oM z), .int (nI i)] : List Value).toArray s 0 0 (yA z sz)) (F0 m 40 ls []) := by
    intro T
    induction T using Nat.strongRecOn with
    | _ T ih =>
      intro k f x2 H locs ls hT h1 h2 h3 hU hl
      refine lv_iload hx hb d_M_bitsOf_40 (lv_at hl 4 rfl) ?_
      refine lv_if_le (tgt := 57) hx hb d_M_bitsOf_42 (by decide) (fun c42 => ?_) (fun c42 => ?_)
      · have h42 : T = 0 := Nat.eq_zero_of_not_pos (fun q => nI_nle q (by omega) c42)
        rw [h42] at h3
        refine lv_iload_n hx hb d_M_bitsOf_57 rfl (lv_at hl 3 rfl) ?_
        exact m_iret hx hb hr hlocks hsz hU ⟨f, rfl, h1, h2, by rw [← h3]; rfl⟩ d_M_bitsOf_58
      · have h42 : 0 < T := Nat.pos_of_ne_zero (fun q => c42 (by rw [q]; decide))
        obtain ⟨x45, ex45⟩ : ∃ y : Int32, y = (nI k) + Int32.ofInt 1 := ⟨_, rfl⟩
        refine lv_iinc (v := x45) (lv' := [(3, .int x45), (0, .ref (oM z)), (1, .int (nI i)), (2, .int x2), (4, .int (nI T))]) hx hb d_M_bitsOf_45 hl (k := 3) rfl (by rw [ex45]) (by decide) rfl (fun ls hl => ?_)
        refine lv_iload hx hb d_M_bitsOf_48 (lv_at hl 4 rfl) ?_
        refine lv_iconst (v := 1) hx hb d_M_bitsOf_50 (by decide) ?_
        refine lv_ishr hx hb d_M_bitsOf_51 ?_
        refine lv_topi (fun x51 ex51 => ?_)
        refine lv_istore (lv' := [(4, .int x51), (3, .int x45), (0, .ref (oM z)), (1, .int (nI i)), (2, .int x2)]) hx hb d_M_bitsOf_52 hl (by decide) rfl (fun ls hl => ?_)
        refine lv_goto (tgt := 40) hx hb d_M_bitsOf_54 (by decide) ?_
        have e51 : x51 = nI (T / 2) := by rw [ex51]; exact pk_shrN (by omega) 1 1 (by decide)
        rw [e51, ex45, show Int32.ofInt 1 = 1 from rfl, nI_1] at hl
        exact ih (T / 2) (by omega) (k + 1) f x2 _ _ ls (by omega) h1 h2 (by rw [← h3, bl_half h42]; omega) hU (lv_sub hl [2, 3, 4, 1, 0] rfl)
  refine lv_aload_n hx hb d_M_bitsOf_0 rfl (lv_at hl 0 rfl) ?_
  refine lv_iload_n hx hb d_M_bitsOf_1 rfl (lv_at hl 1 rfl) ?_
  refine m_calli (m_run (As := [.int (nI i)]) (rest := []) hx hb hml hown hts hU (cm_sized l z _ g hi hok) (w_M_sized_cw hts k_M_129 rfl rfl ⟨Nat.le_of_ble_eq_true rfl, Nat.le_of_ble_eq_true rfl⟩) (m_recv hU) rfl hl.1 rfl (lv_room (Nat.le_of_ble_eq_true rfl)) d_M_bitsOf_2 ⟨Nat.zero_le _, Nat.zero_le _⟩) hU (fun r2 g2 H locs hp hU => ?_)
  obtain ⟨f, n, rfl, k1, k2, k3, k4, k5, k6, k7⟩ := hp
  rw [k4]
  have hV : rv f 10 = dv f 10 n := dv_zero k5 k6
  refine lv_istore_n (lv' := [(2, .int (nI n)), (0, .ref (oM z)), (1, .int (nI i))]) hx hb d_M_bitsOf_5 rfl hl (by decide) rfl (fun ls hl => ?_)
  refine lv_iload_n hx hb d_M_bitsOf_6 rfl (lv_at hl 0 rfl) ?_
  refine lv_if_ne (tgt := 14) hx hb d_M_bitsOf_7 (by decide) (fun c7 => ?_) (fun c7 => ?_)
  · have h7 : 0 < n := Nat.pos_of_ne_zero (fun q => c7 (by rw [q]; rfl))
    obtain ⟨j, rfl⟩ : ∃ j, n = j + 1 := ⟨n - 1, by omega⟩
    refine lv_bipush (v := 16) hx hb d_M_bitsOf_14 (by decide) ?_
    refine lv_iload_n hx hb d_M_bitsOf_16 rfl (lv_at hl 0 rfl) ?_
    refine lv_iconst (v := 1) hx hb d_M_bitsOf_17 (by decide) ?_
    refine lv_isub hx hb d_M_bitsOf_18 ?_
    refine lv_topi (fun x18 ex18 => ?_)
    refine lv_imul hx hb d_M_bitsOf_19 ?_
    refine lv_topi (fun x19 ex19 => ?_)
    refine lv_istore_n (lv' := [(3, .int x19), (2, .int (nI (j + 1))), (0, .ref (oM z)), (1, .int (nI i))]) hx hb d_M_bitsOf_20 rfl hl (by decide) rfl (fun ls hl => ?_)
    refine lv_iload_n hx hb d_M_bitsOf_21 rfl (lv_at hl 1 rfl) ?_
    refine lv_if_ne (tgt := 29) hx hb d_M_bitsOf_22 (by decide) (fun c22 => ?_) (fun c22 => ?_)
    · have e18 : x18 = nI j := by rw [ex18]; exact nI_pred j
      have e19 : x19 = nI (16 * j) := by rw [ex19, e18]; exact pk_mul 16 j
      rw [e19] at hl
      refine lv_aload_n hx hb d_M_bitsOf_29 rfl (lv_at hl 2 rfl) ?_
      refine lv_bipush (v := 10) hx hb d_M_bitsOf_30 (by decide) ?_
      refine lv_iload_n hx hb d_M_bitsOf_32 rfl (lv_at hl 1 rfl) ?_
      refine lv_iconst (v := 1) hx hb d_M_bitsOf_33 (by decide) ?_
      refine lv_isub hx hb d_M_bitsOf_34 ?_
      refine lv_topi (fun x34 ex34 => ?_)
      have e34 : x34 = nI j := by rw [ex34]; exact nI_pred j
      rw [e34]
      refine m_calli (m_run (As := [.int 10, .int (nI j)]) (rest := []) hx hb hml hown hts hU (cm_get l z _ (mF g f) (i := 10) (by decide) (k := j) (by omega)) (w_M_get_cw hts k_M_33 rfl rfl ⟨Nat.le_of_ble_eq_true rfl, Nat.le_of_ble_eq_true rfl⟩) (m_recv hU) rfl hl.1 rfl (lv_room (Nat.le_of_ble_eq_true rfl)) d_M_bitsOf_35 ⟨Nat.zero_le _, Nat.zero_le _⟩) hU (fun r35 g35 H locs hp hU => ?_)
      obtain ⟨rfl, q35⟩ := hp
      have w1 := k1 (1100 * 10 + j) (by omega)
      have q35 : r35 = nI (wn (f (1100 * 10 + j))) := by rw [q35]; exact (nI_wn _).symm
      rw [q35]
      refine lv_istore (lv' := [(4, .int (nI (wn (f (1100 * 10 + j))))), (3, .int (nI (16 * j))), (2, .int (nI (j + 1))), (0, .ref (oM z)), (1, .int (nI i))]) hx hb d_M_bitsOf_38 hl (by decide) rfl (fun ls hl => ?_)
      have hT0 : 0 < wn (f (1100 * 10 + j)) := Nat.pos_of_ne_zero (fun q => k7.resolve_left (by omega) (wn_inj (by rw [Nat.add_sub_cancel]; exact q.trans wn_0.symm)))
      exact K (wn (f (1100 * 10 + j))) (16 * j) f _ _ _ ls w1 k1 k2 (by
        rw [← k3, hV, dv_s]
        have e2 : (65536 : Nat) ^ j = 2 ^ (16 * j) := by rw [Nat.pow_mul]
        have h9 := dv_lt (f := f) (i := 10) (by decide) k1 j (by omega)
        rw [e2] at h9 ⊢
        rw [bl_top h9 hT0]) hU (lv_sub hl [3, 4, 2, 1, 0] rfl)
    · exact absurd c22 c7
  · have h7 : n = 0 := Nat.eq_zero_of_not_pos (fun q => nI_ne0 q (by omega) c7)
    refine lv_iconst (v := 0) hx hb d_M_bitsOf_10 (by decide) ?_
    refine lv_goto (tgt := 20) hx hb d_M_bitsOf_11 (by decide) ?_
    refine lv_istore_n (lv' := [(3, .int 0), (2, .int (nI n)), (0, .ref (oM z)), (1, .int (nI i))]) hx hb d_M_bitsOf_20 rfl hl (by decide) rfl (fun ls hl => ?_)
    refine lv_iload_n hx hb d_M_bitsOf_21 rfl (lv_at hl 1 rfl) ?_
    refine lv_if_ne (tgt := 29) hx hb d_M_bitsOf_22 (by decide) (fun c22 => ?_) (fun c22 => ?_)
    · exact absurd c7 c22
    · refine lv_iconst (v := 0) hx hb d_M_bitsOf_25 (by decide) ?_
      refine lv_goto (tgt := 38) hx hb d_M_bitsOf_26 (by decide) ?_
      refine lv_istore (lv' := [(4, .int 0), (3, .int 0), (2, .int (nI n)), (0, .ref (oM z)), (1, .int (nI i))]) hx hb d_M_bitsOf_38 hl (by decide) rfl (fun ls hl => ?_)
      exact K 0 0 f _ _ _ ls (by decide) k1 k2 (by rw [← k3, hV, h7]; rfl) hU (lv_sub hl [3, 4, 2, 1, 0] rfl)
set_option maxHeartbeats 4000000 in
set_option maxRecDepth 100000 in
theorem cm_left (l : Launch) (z : YM) (sz : Nat) (g : SM) {i : Nat} (hi : i < 10) (hok : dgOk g.2.2.2.2.2) {M : Nat} (hM0 : 0 < M) (hM : M < 2 ^ 31) : Met l y_M_left (zw y_M_left b_M_left 7 (some .long)) { frames := 3, cells := 0, slots := 0, locals := 76 } (va_Pc [.ref (oM z), .int (nI i), .long (lN M)] (mI z g sz)) (va_Ql (fun r g2 => ∃ f, g2 = mF g f ∧ dgOk f ∧ rsm g.2.2.2.2.2 f 10 ∧ r.toInt = sv g.2.2.2.2.2 i % (M : Int)) (mO z sz) (yA z sz)) 0 0 (yA z sz) := by
  refine m_ofW (by decide) (Nat.le_of_ble_eq_true rfl) (fun p e s m below meth c hx hb hr hml hown hts hlocks hname hsz ls hU hl => ?_)
  have hl : lv_has ls 7 [(0, .ref (oM z)), (1, .int (nI i)), (2, .long (lN M))] := hl
  have htop := top_iff (i := i) (by omega) hok
  have hrl := rv_lt (i := i) (by omega) hok
  have hww := HW_2
  have K : ∀ (q N : Nat) (f : Nat → Int32) (rs : Nat) (H : Heap) (locs : List Loc) (ls : Array Slot), q ≤ N → N ≤ 1100 → dgOk f → rsm g.2.2.2.2.2 f 10 → rv f 10 = (sv g.2.2.2.2.2 i).natAbs → rv f 10 = dv f 10 N → rs = dv f 10 N / 65536 ^ q % M → Ms z (mF g f) s.heap H locs s → lv_has ls 7 [(0, .ref (oM z)), (1, .int (nI i)), (2, .long (lN M)), (4, .long (lN rs)), (6, .int (nI q - 1))] → W p l e ({ frames := 3, cells := 0, slots := 0, locals := 76 } : Room) s m ([.ref (oM z), .int (nI i), .long (lN M)] : List Value).toArray below meth c H locs 0 0 (MQ below (va_Ql (fun r g2 => ∃ f, g2 = mF g f ∧ dgOk f ∧ rsm g.2.2.2.2.2 f 10 ∧ r.toInt = sv g.2.2.2.2.2 i % (M : Int)) (mO z sz) (yA z sz)) ([.ref (oM z), .int (nI i), .long (lN M)] : List Value).toArray s 0 0 (yA z sz)) (F0 m 12 ls []) := by
    intro q
    induction q with
    | zero =>
      intro N f rs H locs ls hq hN h1 h2 h3 h4 hI hU hl
      have hI : rs = (sv g.2.2.2.2.2 i).natAbs % M := by rw [hI, ← h4, h3, Nat.pow_zero, Nat.div_one]
      have hlt : rs < M := by rw [hI]; exact Nat.mod_lt _ hM0
      have t0 : (lN rs).toInt = (rs : Int) := pk_lT (by omega)
      refine lv_iload hx hb d_M_left_12 (lv_at hl 4 rfl) ?_
      refine lv_if_lt (tgt := 43) hx hb d_M_left_14 (by decide) (fun c14 => ?_) (fun c14 => ?_)
      · refine lv_aload_n hx hb d_M_left_43 rfl (lv_at hl 0 rfl) ?_
        refine lv_iload_n hx hb d_M_left_44 rfl (lv_at hl 1 rfl) ?_
        refine m_calli (m_run (As := [.int (nI i)]) (rest := []) hx hb hml hown hts hU (cm_isBelow l z _ (mF g f) (i := i) (by omega)) (w_M_isBelow_cw hts k_M_123 rfl rfl ⟨Nat.le_of_ble_eq_true rfl, Nat.le_of_ble_eq_true rfl⟩) (m_recv hU) rfl hl.1 rfl (lv_room (Nat.le_of_ble_eq_true rfl)) d_M_left_45 ⟨Nat.zero_le _, Nat.zero_le _⟩) hU (fun r45 g45 H locs hp hU => ?_)
        obtain ⟨rfl, q2⟩ := hp
        have q2 : r45 = (if 32767 < (f (1100 * i + 1099)).toInt then 1 else 0) := q2
        rw [h2 (1100 * i + 1099) (by omega), dg_int (hok _ (by omega))] at q2
        refine lv_if_eq (tgt := 65) hx hb d_M_left_48 (by decide) (fun c48 => ?_) (fun c48 => ?_)
        · have h5 : rv g.2.2.2.2.2 i < HW := by
            apply Classical.byContradiction
            intro w
            rw [q2, if_pos (by have := htop.mpr (by omega); omega)] at c48
            exact absurd c48 (by decide)
          refine lv_lload hx hb d_M_left_65 (lv_at hl 3 rfl) ?_
          exact m_lret hx hb hr hlocks hsz hU ⟨f, rfl, h1, h2, by
            rw [t0, hI, sv, if_pos h5, Int.natAbs_natCast]; rfl⟩ d_M_left_67
        · have h5 : ¬ rv g.2.2.2.2.2 i < HW := by
            intro w
            exact c48 (by rw [q2, if_neg (fun q => by have := htop.mp (by omega); omega)])
          have hsv : sv g.2.2.2.2.2 i = -(((sv g.2.2.2.2.2 i).natAbs : Nat) : Int) := neg_abs (sv_np h5 hrl)
          refine lv_lload hx hb d_M_left_51 (lv_at hl 3 rfl) ?_
          refine lv_lconst (v := 0) hx hb d_M_left_53 (by decide) ?_
          refine W.lcmp hx hb d_M_left_54 ?_
          refine lv_if_le (tgt := 65) hx hb d_M_left_55 (by decide) (fun c55 => ?_) (fun c55 => ?_)
          · have h55 : rs = 0 := by
              have q := (lg_cmp_le _ _).mp c55
              rw [Int64.le_iff_toInt_le, Int64.toInt_zero, t0] at q
              omega
            refine lv_lload hx hb d_M_left_65 (lv_at hl 3 rfl) ?_
            exact m_lret hx hb hr hlocks hsz hU ⟨f, rfl, h1, h2, by
              rw [t0, h55, hsv]; exact (neg_mod0 (by omega)).symm⟩ d_M_left_67
          · have h55 : 0 < rs := by
              have q : ¬ lN rs ≤ 0 := fun q => c55 ((lg_cmp_le _ _).mpr q)
              rw [Int64.le_iff_toInt_le, Int64.toInt_zero, t0] at q
              omega
            refine lv_lload_n hx hb d_M_left_58 rfl (lv_at hl 2 rfl) ?_
            refine lv_lload hx hb d_M_left_59 (lv_at hl 3 rfl) ?_
            refine lv_lsub hx hb d_M_left_61 ?_
            refine lv_topl (fun x61 ex61 => ?_)
            refine lv_goto (tgt := 67) hx hb d_M_left_62 (by decide) ?_
            have t61 : x61.toInt = (M : Int) - (rs : Int) := by
              have tM : (lN M).toInt = (M : Int) := pk_lT (by omega)
              rw [ex61, Jvm.Kit.i64_sub] <;> rw [tM, t0] <;> omega
            exact m_lret hx hb hr hlocks hsz hU ⟨f, rfl, h1, h2, by
              rw [t61, hI, hsv, Int.natAbs_neg, Int.natAbs_natCast]; exact (neg_mod1 hM0 (by omega)).symm⟩ d_M_left_67
      · exact absurd (by decide) c14
    | succ q ih =>
      intro N f rs H locs ls hq hN h1 h2 h3 h4 hI hU hl
      rw [nI_pred] at hl
      have hlt : rs < M := by rw [hI]; exact Nat.mod_lt _ hM0
      refine lv_iload hx hb d_M_left_12 (lv_at hl 4 rfl) ?_
      refine lv_if_lt (tgt := 43) hx hb d_M_left_14 (by decide) (fun c14 => ?_) (fun c14 => ?_)
      · exact absurd c14 (nI_pos (by omega))
      · refine lv_lload hx hb d_M_left_17 (lv_at hl 3 rfl) ?_
        refine lv_ldc2 (v := 65536) hx hb hown (hts _ k_M_132) d_M_left_19 ?_
        refine lv_lmul hx hb d_M_left_22 ?_
        refine lv_topl (fun x22 ex22 => ?_)
        refine lv_aload_n hx hb d_M_left_23 rfl (lv_at hl 0 rfl) ?_
        refine lv_bipush (v := 10) hx hb d_M_left_24 (by decide) ?_
        refine lv_iload hx hb d_M_left_26 (lv_at hl 4 rfl) ?_
        refine m_calli (m_run (As := [.int 10, .int (nI q)]) (rest := [.long x22]) hx hb hml hown hts hU (cm_get l z _ (mF g f) (i := 10) (by decide) (k := q) (by omega)) (w_M_get_cw hts k_M_33 rfl rfl ⟨Nat.le_of_ble_eq_true rfl, Nat.le_of_ble_eq_true rfl⟩) (m_recv hU) rfl hl.1 rfl (lv_room (Nat.le_of_ble_eq_true rfl)) d_M_left_28 ⟨Nat.zero_le _, Nat.zero_le _⟩) hU (fun r28 g28 H locs hp hU => ?_)
        obtain ⟨rfl, q28⟩ := hp
        have w1 := h1 (1100 * 10 + q) (by omega)
        have q28 : r28 = nI (wn (f (1100 * 10 + q))) := by rw [q28]; exact (nI_wn _).symm
        refine lv_i2l hx hb d_M_left_31 rfl ?_
        refine lv_topl (fun x31 ex31 => ?_)
        refine lv_ladd hx hb d_M_left_32 ?_
        refine lv_topl (fun x32 ex32 => ?_)
        refine lv_lload_n hx hb d_M_left_33 rfl (lv_at hl 2 rfl) ?_
        have hne34 : ¬ lN M = 0 := fun q => by
          rw [show (0 : Int64) = lN 0 from rfl, pk_lEQ (by omega) (by decide)] at q
          omega
        have e22 : x22 = lN (rs * 65536) := by rw [ex22, show (65536 : Int64) = lN 65536 from rfl, lN_mul]
        have e31 : x31 = lN (wn (f (1100 * 10 + q))) := by rw [ex31, q28]; exact nI_l (by omega)
        have e32 : x32 = lN (rs * 65536 + wn (f (1100 * 10 + q))) := by rw [ex32, e22, e31, lN_add]
        refine lv_lrem hx hb d_M_left_34 hne34 ?_
        refine lv_topl (fun x34 ex34 => ?_)
        refine lv_lstore (lv' := [(4, .long x34), (0, .ref (oM z)), (1, .int (nI i)), (2, .long (lN M)), (6, .int (nI q))]) hx hb d_M_left_35 hl (by decide) rfl (fun ls hl => ?_)
        obtain ⟨x37, ex37⟩ : ∃ y : Int32, y = (nI q) + Int32.ofInt (-1) := ⟨_, rfl⟩
        refine lv_iinc (v := x37) (lv' := [(6, .int x37), (4, .long x34), (0, .ref (oM z)), (1, .int (nI i)), (2, .long (lN M))]) hx hb d_M_left_37 hl (k := 4) rfl (by rw [ex37]) (by decide) rfl (fun ls hl => ?_)
        refine lv_goto (tgt := 12) hx hb d_M_left_40 (by decide) ?_
        have e34 : x34 = lN ((rs * 65536 + wn (f (1100 * 10 + q))) % M) := by rw [ex34, e32]; exact pk_lRem (by omega) hM0 (by omega)
        rw [e34, ex37, show Int32.ofInt (-1) = -1 from rfl, ← Int32.sub_eq_add_neg] at hl
        exact ih N f _ _ _ ls (by omega) hN h1 h2 h3 h4 (by rw [hI]; exact dv_divw (by decide) h1 hN (by omega)) hU (lv_sub hl [2, 3, 4, 1, 0] rfl)
  refine lv_lconst (v := 0) hx hb d_M_left_0 (by decide) ?_
  refine lv_lstore (lv' := [(4, .long 0), (0, .ref (oM z)), (1, .int (nI i)), (2, .long (lN M))]) hx hb d_M_left_1 hl (by decide) rfl (fun ls hl => ?_)
  refine lv_aload_n hx hb d_M_left_3 rfl (lv_at hl 1 rfl) ?_
  refine lv_iload_n hx hb d_M_left_4 rfl (lv_at hl 2 rfl) ?_
  refine m_calli (m_run (As := [.int (nI i)]) (rest := []) hx hb hml hown hts hU (cm_sized l z _ g hi hok) (w_M_sized_cw hts k_M_129 rfl rfl ⟨Nat.le_of_ble_eq_true rfl, Nat.le_of_ble_eq_true rfl⟩) (m_recv hU) rfl hl.1 rfl (lv_room (Nat.le_of_ble_eq_true rfl)) d_M_left_5 ⟨Nat.zero_le _, Nat.zero_le _⟩) hU (fun r5 g5 H locs hp hU => ?_)
  obtain ⟨f, n, rfl, k1, k2, k3, k4, k5, k6, k7⟩ := hp
  refine lv_iconst (v := 1) hx hb d_M_left_8 (by decide) ?_
  refine lv_isub hx hb d_M_left_9 ?_
  refine lv_topi (fun x9 ex9 => ?_)
  refine lv_istore (lv' := [(6, .int x9), (4, .long 0), (0, .ref (oM z)), (1, .int (nI i)), (2, .long (lN M))]) hx hb d_M_left_10 hl (by decide) rfl (fun ls hl => ?_)
  rw [ex9, k4] at hl
  exact K n n f 0 _ _ ls (Nat.le_refl n) k5 k1 k2 k3 (dv_zero k5 k6) (by rw [dv_hi (by decide) k1 k5 (Nat.le_refl n), Nat.zero_mod]) hU (lv_sub hl [2, 3, 4, 1, 0] rfl)
