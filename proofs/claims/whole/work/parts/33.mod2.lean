/-! UnitFinderModel: be, combine, halve -/
theorem cs_step {V P w : Nat} {c S t s' : Int} (h : (V : Int) + c * (P : Int) = S) (ht : t = s' + c) (hw : (w : Int) = t % 65536) : ((V + w * P : Nat) : Int) + t / 65536 * ((P * 65536 : Nat) : Int) = S + s' * (P : Int) := by
  have e := Int.emod_add_mul_ediv t 65536
  have e2 : (w : Int) * P + t / 65536 * ((P * 65536 : Nat) : Int) = t * P := by
    rw [hw, Int.natCast_mul, show ((65536 : Nat) : Int) = 65536 from rfl]
    conv => rhs; rw [← e]
    rw [Int.add_mul]
    congr 1
    ac_rfl
  have e3 : t * (P : Int) = s' * P + c * P := by rw [ht, Int.add_mul]
  rw [Int.natCast_add, Int.natCast_mul w]
  omega
theorem mul_bd {a b : Int} (h1 : -2147483648 ≤ a) (h2 : a ≤ 2147483648) (h3 : 0 ≤ b) (h4 : b ≤ 65535) : -140735340871680 ≤ a * b ∧ a * b ≤ 140735340871680 := by
  have e1 : a * b ≤ 2147483648 * b := Int.mul_le_mul_of_nonneg_right h2 h3
  have e2 : -2147483648 * b ≤ a * b := Int.mul_le_mul_of_nonneg_right h1 h3
  omega
theorem wn_and16 (t : Int64) : (wn (t &&& 65535).toInt32 : Int) = t.toInt % 65536 := by
  have h1 : (t &&& 65535).toInt = t.toInt % 65536 := Jvm.Kit.i64_mask t 65535 (k := 16) (by decide) (by decide)
  have h2 := wn_l2iZ (t &&& 65535)
  rw [h2, h1]
  omega
theorem nI_wn (x : Int32) : nI (wn x) = x := by
  apply wn_inj
  show (Int32.ofNat (wn x)).toBitVec.toNat = wn x
  exact (BitVec.toNat_ofNat _ _).trans (Nat.mod_eq_of_lt (wn_lt x))
theorem wn_nI {n : Nat} (h : n < 4294967296) : wn (nI n) = n := (BitVec.toNat_ofNat n 32).trans (Nat.mod_eq_of_lt h)
theorem wn_or15 {a b : Nat} (ha : a < 32768) (hb : b < 2) : wn (nI a ||| nI (b * 32768)) = a + b * 32768 := by
  have h : wn (nI a ||| nI (b * 32768)) = wn (nI a) ||| wn (nI (b * 32768)) := UInt32.toNat_or _ _
  rw [h, wn_nI (by omega), wn_nI (by omega), Nat.or_comm, show b * 32768 = 2 ^ 15 * b by omega, ← Nat.two_pow_add_eq_or_of_lt (i := 15) ha b]
  omega
theorem dv_one {f : Nat → Int32} {i w : Nat} (h : ∀ q, q < 1100 → wn (f (1100 * i + q)) = if q = 0 then w else 0) : rv f i = w := by
  have key : ∀ n, n < 1100 → dv f i (n + 1) = w := by
    intro n
    induction n with
    | zero => intro hn; rw [dv_s, h 0 hn, if_pos rfl]; show 0 + w * 1 = w; omega
    | succ n ih => intro hn; rw [dv_s, ih (by omega), h (n + 1) hn, if_neg (by omega), Nat.zero_mul, Nat.add_zero]
  exact key 1099 (by decide)
theorem dv_stepH {V w0 X P wq wr : Nat} (h : 2 * V + w0 = X + wq % 2 * P) : 2 * (V + (wq / 2 + wr % 2 * 32768) * P) + w0 = X + wq * P + wr % 2 * (P * 65536) := by
  have e1 : wq * P = 2 * (wq / 2 * P) + wq % 2 * P := by
    conv => lhs; rw [show wq = 2 * (wq / 2) + wq % 2 by omega]
    rw [Nat.add_mul, Nat.mul_assoc]
  have e2 : wr % 2 * (P * 65536) = 2 * (wr % 2 * 32768 * P) := by
    rw [Nat.mul_comm P, ← Nat.mul_assoc, ← Nat.mul_assoc]
    congr 1
    omega
  rw [Nat.add_mul]
  omega
set_option maxHeartbeats 4000000 in
set_option maxRecDepth 100000 in
theorem cm_combine (l : Launch) (z : YM) (sz : Nat) (g : SM) {to i j : Nat} (ht : to < 11) (hi : i < 11) (hj : j < 11) {x y : Int64} (hx1 : -2147483648 ≤ x.toInt) (hx2 : x.toInt ≤ 2147483648) (hy1 : -2147483648 ≤ y.toInt) (hy2 : y.toInt ≤ 2147483648) (hok : dgOk g.2.2.2.2.2) : Met l y_M_combine (zw y_M_combine b_M_combine 13 none) { frames := 1, cells := 0, slots := 0, locals := 23 } (va_Pc [.ref (oM z), .int (nI to), .long x, .int (nI i), .long y, .int (nI j)] (mI z g sz)) (va_Qv (fun g2 => ∃ f, g2 = mF g f ∧ dgOk f ∧ rsm g.2.2.2.2.2 f to ∧ (rv f to : Int) = (x.toInt * (rv g.2.2.2.2.2 i : Int) + y.toInt * (rv g.2.2.2.2.2 j : Int)) % (WW : Int)) (mO z sz) (yA z sz)) 0 0 (yA z sz) := by
  refine m_ofW (by decide) (Nat.le_of_ble_eq_true rfl) (fun p e s m below meth c hx hb hr hml hown hts hlocks hname hsz ls hU hl => ?_)
  have hl : lv_has ls 13 [(0, .ref (oM z)), (1, .int (nI to)), (2, .long x), (4, .int (nI i)), (5, .long y), (7, .int (nI j))] := hl
  obtain ⟨F, eF⟩ : ∃ y, y = g.2.2.2.2.2 := ⟨_, rfl⟩
  have K : ∀ (d k : Nat) (f : Nat → Int32) (cr : Int64) (H : Heap) (locs : List Loc) (ls : Array Slot), k + d = 1100 → (∀ q, (q < 1100 * to ∨ 1100 * to + k ≤ q) → f q = F q) → (∀ q, q < k → wn (f (1100 * to + q)) < 65536) → (dv f to k : Int) + cr.toInt * ((65536 ^ k : Nat) : Int) = x.toInt * (dv F i k : Int) + y.toInt * (dv F j k : Int) → -17179869184 ≤ cr.toInt → cr.toInt ≤ 17179869184 → Ms z (mF g f) s.heap H locs s → lv_has ls 13 [(0, .ref (oM z)), (1, .int (nI to)), (2, .long x), (4, .int (nI i)), (5, .long y), (7, .int (nI j)), (8, .long cr), (10, .int (nI k))] → W p l e ({ frames := 1, cells := 0, slots := 0, locals := 23 } : Room) s m ([.ref (oM z), .int (nI to), .long x, .int (nI i), .long y, .int (nI j)] : List Value).toArray below meth c H locs 0 0 (MQ below (va_Qv (fun g2 => ∃ f, g2 = mF g f ∧ dgOk f ∧ rsm g.2.2.2.2.2 f to ∧ (rv f to : Int) = (x.toInt * (rv g.2.2.2.2.2 i : Int) + y.toInt * (rv g.2.2.2.2.2 j : Int)) % (WW : Int)) (mO z sz) (yA z sz)) ([.ref (oM z), .int (nI to), .long x, .int (nI i), .long y, .int (nI j)] : List Value).toArray s 0 0 (yA z sz)) (F0 m 6 ls []) := by
    intro d
    induction d with
    | zero =>
      intro k f cr H locs ls hk h1 h2 hI hc1 hc2 hU hl
      have hk : k = 1100 := by omega
      subst hk
      refine lv_iload hx hb d_M_combine_6 (lv_at hl 7 rfl) ?_
      refine lv_sipush (v := 1100) hx hb d_M_combine_8 (by decide) ?_
      refine lv_icmp_ge (tgt := 70) hx hb d_M_combine_11 (by decide) (fun c11 => ?_) (fun c11 => ?_)
      · subst eF
        have hokf : dgOk f := fun q hq => by
          by_cases h : q < 1100 * to ∨ 1100 * to + 1100 ≤ q
          · rw [h1 q h]; exact hok q hq
          · obtain ⟨w, rfl⟩ : ∃ w, q = 1100 * to + w := ⟨q - 1100 * to, by omega⟩
            exact h2 w (by omega)
        exact m_vret hx hb hr hlocks hsz hU ⟨f, rfl, hokf, h1, by
          have h3 := rv_lt ht hokf
          have hI : (rv f to : Int) + cr.toInt * (WW : Int) = x.toInt * (rv g.2.2.2.2.2 i : Int) + y.toInt * (rv g.2.2.2.2.2 j : Int) := by rw [WW_def]; exact hI
          rw [← hI, Int.add_mul_emod_self_right]
          exact (Int.emod_eq_of_lt (by omega) (by omega)).symm⟩ d_M_combine_70
      · exact absurd (Int32.le_refl _) c11
    | succ d ih =>
      intro k f cr H locs ls hk h1 h2 hI hc1 hc2 hU hl
      refine lv_iload hx hb d_M_combine_6 (lv_at hl 7 rfl) ?_
      refine lv_sipush (v := 1100) hx hb d_M_combine_8 (by decide) ?_
      refine lv_icmp_ge (tgt := 70) hx hb d_M_combine_11 (by decide) (fun c11 => ?_) (fun c11 => ?_)
      · exact absurd c11 (nI_ge (a := k) (b := 1100) (by omega) (by decide))
      · refine lv_lload_n hx hb d_M_combine_14 rfl (lv_at hl 2 rfl) ?_
        refine lv_aload_n hx hb d_M_combine_15 rfl (lv_at hl 0 rfl) ?_
        refine lv_iload hx hb d_M_combine_16 (lv_at hl 3 rfl) ?_
        refine lv_iload hx hb d_M_combine_18 (lv_at hl 7 rfl) ?_
        refine m_calli (m_run (As := [.int (nI i), .int (nI k)]) (rest := [.long x]) hx hb hml hown hts hU (cm_get l z _ (mF g f) hi (k := k) (by omega)) (w_M_get_cw hts k_M_33 rfl rfl ⟨Nat.le_of_ble_eq_true rfl, Nat.le_of_ble_eq_true rfl⟩) (m_recv hU) rfl hl.1 rfl (lv_room (Nat.le_of_ble_eq_true rfl)) d_M_combine_20 ⟨Nat.zero_le _, Nat.zero_le _⟩) hU (fun r20 g20 H locs hp hU => ?_)
        obtain ⟨rfl, q20⟩ := hp
        have q20 : r20 = F (1100 * i + k) := by rw [q20]; exact h1 _ (by omega)
        refine lv_i2l hx hb d_M_combine_23 rfl ?_
        refine lv_topl (fun x23 ex23 => ?_)
        refine lv_lmul hx hb d_M_combine_24 ?_
        refine lv_topl (fun x24 ex24 => ?_)
        refine lv_lload hx hb d_M_combine_25 (lv_at hl 4 rfl) ?_
        refine lv_aload_n hx hb d_M_combine_27 rfl (lv_at hl 0 rfl) ?_
        refine lv_iload hx hb d_M_combine_28 (lv_at hl 5 rfl) ?_
        refine lv_iload hx hb d_M_combine_30 (lv_at hl 7 rfl) ?_
        refine m_calli (m_run (As := [.int (nI j), .int (nI k)]) (rest := [.long y, .long x24]) hx hb hml hown hts hU (cm_get l z _ (mF g f) hj (k := k) (by omega)) (w_M_get_cw hts k_M_33 rfl rfl ⟨Nat.le_of_ble_eq_true rfl, Nat.le_of_ble_eq_true rfl⟩) (m_recv hU) rfl hl.1 rfl (lv_room (Nat.le_of_ble_eq_true rfl)) d_M_combine_32 ⟨Nat.zero_le _, Nat.zero_le _⟩) hU (fun r32 g32 H locs hp hU => ?_)
        obtain ⟨rfl, q32⟩ := hp
        have q32 : r32 = F (1100 * j + k) := by rw [q32]; exact h1 _ (by omega)
        refine lv_i2l hx hb d_M_combine_35 rfl ?_
        refine lv_topl (fun x35 ex35 => ?_)
        refine lv_lmul hx hb d_M_combine_36 ?_
        refine lv_topl (fun x36 ex36 => ?_)
        refine lv_ladd hx hb d_M_combine_37 ?_
        refine lv_topl (fun x37 ex37 => ?_)
        refine lv_lload hx hb d_M_combine_38 (lv_at hl 6 rfl) ?_
        refine lv_ladd hx hb d_M_combine_40 ?_
        refine lv_topl (fun x40 ex40 => ?_)
        refine lv_lstore (lv' := [(11, .long x40), (0, .ref (oM z)), (1, .int (nI to)), (2, .long x), (4, .int (nI i)), (5, .long y), (7, .int (nI j)), (8, .long cr), (10, .int (nI k))]) hx hb d_M_combine_41 hl (by decide) rfl (fun ls hl => ?_)
        refine lv_aload_n hx hb d_M_combine_43 rfl (lv_at hl 1 rfl) ?_
        refine lv_iload_n hx hb d_M_combine_44 rfl (lv_at hl 2 rfl) ?_
        refine lv_iload hx hb d_M_combine_45 (lv_at hl 8 rfl) ?_
        refine lv_lload hx hb d_M_combine_47 (lv_at hl 0 rfl) ?_
        refine lv_ldc2 (v := 65535) hx hb hown (hts _ k_M_27) d_M_combine_49 ?_
        refine lv_land hx hb d_M_combine_52 ?_
        refine lv_topl (fun x52 ex52 => ?_)
        refine lv_l2i hx hb d_M_combine_53 rfl ?_
        refine lv_topi (fun x53 ex53 => ?_)
        refine m_callv (m_run (As := [.int (nI to), .int (nI k), .int x53]) (rest := []) hx hb hml hown hts hU (cm_put l z _ (mF g f) ht (k := k) (by omega) x53) (w_M_put_cw hts k_M_29 rfl rfl ⟨Nat.le_of_ble_eq_true rfl, Nat.le_of_ble_eq_true rfl⟩) (m_recv hU) rfl hl.1 rfl (lv_room (Nat.le_of_ble_eq_true rfl)) d_M_combine_54 ⟨Nat.zero_le _, Nat.zero_le _⟩) hU (fun g54 H locs hp hU => ?_)
        subst hp
        refine lv_lload hx hb d_M_combine_57 (lv_at hl 0 rfl) ?_
        refine lv_bipush (v := 16) hx hb d_M_combine_59 (by decide) ?_
        refine lv_lshr hx hb d_M_combine_61 rfl ?_
        refine lv_topl (fun x61 ex61 => ?_)
        refine lv_lstore (lv' := [(8, .long x61), (11, .long x40), (0, .ref (oM z)), (1, .int (nI to)), (2, .long x), (4, .int (nI i)), (5, .long y), (7, .int (nI j)), (10, .int (nI k))]) hx hb d_M_combine_62 hl (by decide) rfl (fun ls hl => ?_)
        obtain ⟨x64, ex64⟩ : ∃ y : Int32, y = (nI k) + Int32.ofInt 1 := ⟨_, rfl⟩
        refine lv_iinc (v := x64) (lv' := [(10, .int x64), (8, .long x61), (11, .long x40), (0, .ref (oM z)), (1, .int (nI to)), (2, .long x), (4, .int (nI i)), (5, .long y), (7, .int (nI j))]) hx hb d_M_combine_64 hl (k := 8) rfl (by rw [ex64]) (by decide) rfl (fun ls hl => ?_)
        refine lv_goto (tgt := 6) hx hb d_M_combine_67 (by decide) ?_
        have w1 : wn (F (1100 * i + k)) < 65536 := by rw [eF]; exact hok _ (by omega)
        have w2 : wn (F (1100 * j + k)) < 65536 := by rw [eF]; exact hok _ (by omega)
        have t23 : x23.toInt = (wn (F (1100 * i + k)) : Int) := by rw [ex23, Jvm.Kit.i64_of_i32, q20]; exact dg_int w1
        have t35 : x35.toInt = (wn (F (1100 * j + k)) : Int) := by rw [ex35, Jvm.Kit.i64_of_i32, q32]; exact dg_int w2
        obtain ⟨b1, b2⟩ := mul_bd hx1 hx2 (b := (wn (F (1100 * i + k)) : Int)) (by omega) (by omega)
        obtain ⟨b3, b4⟩ := mul_bd hy1 hy2 (b := (wn (F (1100 * j + k)) : Int)) (by omega) (by omega)
        have t24 : x24.toInt = x.toInt * (wn (F (1100 * i + k)) : Int) := by rw [ex24, Jvm.Kit.i64_mul] <;> rw [t23] <;> omega
        have t36 : x36.toInt = y.toInt * (wn (F (1100 * j + k)) : Int) := by rw [ex36, Jvm.Kit.i64_mul] <;> rw [t35] <;> omega
        have t37 : x37.toInt = x.toInt * (wn (F (1100 * i + k)) : Int) + y.toInt * (wn (F (1100 * j + k)) : Int) := by rw [ex37, Jvm.Kit.i64_add] <;> rw [t24, t36] <;> omega
        have t40 : x40.toInt = x.toInt * (wn (F (1100 * i + k)) : Int) + y.toInt * (wn (F (1100 * j + k)) : Int) + cr.toInt := by rw [ex40, Jvm.Kit.i64_add] <;> rw [t37] <;> omega
        have t61 : x61.toInt = x40.toInt / 65536 := by rw [ex61]; exact Jvm.Kit.i64_shr x40 _ (k := 16) (by decide)
        have t53 : (wn x53 : Int) = x40.toInt % 65536 := by rw [ex53, ex52]; exact wn_and16 x40
        rw [ex64, show Int32.ofInt 1 = 1 from rfl, nI_1] at hl
        exact ih (k + 1) (upd f (1100 * to + k) x53) x61 _ _ ls (by omega) (fun q hq => by rw [pk_un (by omega)]; exact h1 q (by omega)) (fun q hq => by
          by_cases h : q = k
          · rw [h, pk_us]; omega
          · rw [pk_un (by omega)]; exact h2 q (by omega)) (by
          rw [dv_s, pk_us, dv_congr (f := upd f (1100 * to + k) x53) (g := f) (j := to) (fun q hq => pk_un (by omega)), t61, dv_s, dv_s, Nat.pow_succ]
          refine (cs_step hI t40 t53).trans ?_
          rw [Int.natCast_add, Int.natCast_add, Int.natCast_mul, Int.natCast_mul, Int.mul_add, Int.mul_add, Int.add_mul, Int.mul_assoc, Int.mul_assoc]
          omega) (by rw [t61]; omega) (by rw [t61]; omega) hU (lv_sub hl [3, 4, 5, 6, 7, 8, 1, 0] rfl)
  refine lv_lconst (v := 0) hx hb d_M_combine_0 (by decide) ?_
  refine lv_lstore (lv' := [(8, .long 0), (0, .ref (oM z)), (1, .int (nI to)), (2, .long x), (4, .int (nI i)), (5, .long y), (7, .int (nI j))]) hx hb d_M_combine_1 hl (by decide) rfl (fun ls hl => ?_)
  refine lv_iconst (v := 0) hx hb d_M_combine_3 (by decide) ?_
  refine lv_istore (lv' := [(10, .int 0), (8, .long 0), (0, .ref (oM z)), (1, .int (nI to)), (2, .long x), (4, .int (nI i)), (5, .long y), (7, .int (nI j))]) hx hb d_M_combine_4 hl (by decide) rfl (fun ls hl => ?_)
  exact K 1100 0 F 0 _ _ ls (by decide) (fun _ _ => rfl) (fun q h => by omega) (by show (0 : Int) + 0 * _ = x.toInt * 0 + y.toInt * 0; rw [Int.mul_zero, Int.mul_zero, Int.zero_mul]) (by decide) (by decide) (by rw [eF]; exact hU) (lv_sub hl [2, 3, 4, 5, 6, 7, 1, 0] rfl)
set_option maxHeartbeats 4000000 in
set_option maxRecDepth 100000 in
theorem cm_be (l : Launch) (z : YM) (sz : Nat) (g : SM) {to : Nat} (ht : to < 11) {w : Nat} (hw : w < 65536) (hok : dgOk g.2.2.2.2.2) : Met l y_M_be (zw y_M_be b_M_be 5 none) { frames := 1, cells := 0, slots := 0, locals := 23 } (va_Pc [.ref (oM z), .int (nI to), .long (lN w)] (mI z g sz)) (va_Qv (fun g2 => ∃ f, g2 = mF g f ∧ dgOk f ∧ rsm g.2.2.2.2.2 f to ∧ rv f to = w) (mO z sz) (yA z sz)) 0 0 (yA z sz) := by
  refine m_ofW (by decide) (Nat.le_of_ble_eq_true rfl) (fun p e s m below meth c hx hb hr hml hown hts hlocks hname hsz ls hU hl => ?_)
  have hl : lv_has ls 5 [(0, .ref (oM z)), (1, .int (nI to)), (2, .long (lN w))] := hl
  obtain ⟨F, eF⟩ : ∃ y, y = g.2.2.2.2.2 := ⟨_, rfl⟩
  have tw : (lN w).toInt = (w : Int) := pk_lT (by omega)
  have EP : ∀ (d k : Nat) (f : Nat → Int32) (v : Int64) (H : Heap) (locs : List Loc) (ls : Array Slot), (∀ (k : Nat) (f : Nat → Int32) (H : Heap) (locs : List Loc) (ls : Array Slot), k + d = 1100 → (∀ q, (q < 1100 * to ∨ 1100 * to + k ≤ q) → f q = F q) → (∀ q, q < k → wn (f (1100 * to + q)) = if q = 0 then w else 0) → Ms z (mF g f) s.heap H locs s → lv_has ls 5 [(0, .ref (oM z)), (1, .int (nI to)), (2, .long (lN w)), (4, .int (nI k))] → W p l e ({ frames := 1, cells := 0, slots := 0, locals := 23 } : Room) s m ([.ref (oM z), .int (nI to), .long (lN w)] : List Value).toArray below meth c H locs 0 0 (MQ below (va_Qv (fun g2 => ∃ f, g2 = mF g f ∧ dgOk f ∧ rsm g.2.2.2.2.2 f to ∧ rv f to = w) (mO z sz) (yA z sz)) ([.ref (oM z), .int (nI to), .long (lN w)] : List Value).toArray s 0 0 (yA z sz)) (F0 m 3 ls [])) → k + (d + 1) = 1100 → (∀ q, (q < 1100 * to ∨ 1100 * to + k ≤ q) → f q = F q) → (∀ q, q < k → wn (f (1100 * to + q)) = if q = 0 then w else 0) → v.toInt = (if k = 0 then (w : Int) else 0) → Ms z (mF g f) s.heap H locs s → lv_has ls 5 [(0, .ref (oM z)), (1, .int (nI to)), (2, .long (lN w)), (4, .int (nI k))] → W p l e ({ frames := 1, cells := 0, slots := 0, locals := 23 } : Room) s m ([.ref (oM z), .int (nI to), .long (lN w)] : List Value).toArray below meth c H locs 0 0 (MQ below (va_Qv (fun g2 => ∃ f, g2 = mF g f ∧ dgOk f ∧ rsm g.2.2.2.2.2 f to ∧ rv f to = w) (mO z sz) (yA z sz)) ([.ref (oM z), .int (nI to), .long (lN w)] : List Value).toArray s 0 0 (yA z sz)) (F0 m 35 ls [.long v, .int (nI k), .int (nI to), .ref (oM z)]) := by
    intro d k f v H locs ls ih hk h1 h2 hv hU hl
    refine lv_ldc2 (v := 65535) hx hb hown (hts _ k_M_27) d_M_be_35 ?_
    refine lv_land hx hb d_M_be_38 ?_
    refine lv_topl (fun x38 ex38 => ?_)
    refine lv_l2i hx hb d_M_be_39 rfl ?_
    refine lv_topi (fun x39 ex39 => ?_)
    refine m_callv (m_run (As := [.int (nI to), .int (nI k), .int x39]) (rest := []) hx hb hml hown hts hU (cm_put l z _ (mF g f) ht (k := k) (by omega) x39) (w_M_put_cw hts k_M_29 rfl rfl ⟨Nat.le_of_ble_eq_true rfl, Nat.le_of_ble_eq_true rfl⟩) (m_recv hU) rfl hl.1 rfl (lv_room (Nat.le_of_ble_eq_true rfl)) d_M_be_40 ⟨Nat.zero_le _, Nat.zero_le _⟩) hU (fun g40 H locs hp hU => ?_)
    subst hp
    obtain ⟨x43, ex43⟩ : ∃ y : Int32, y = (nI k) + Int32.ofInt 1 := ⟨_, rfl⟩
    refine lv_iinc (v := x43) (lv' := [(4, .int x43), (0, .ref (oM z)), (1, .int (nI to)), (2, .long (lN w))]) hx hb d_M_be_43 hl (k := 3) rfl (by rw [ex43]) (by decide) rfl (fun ls hl => ?_)
    refine lv_goto (tgt := 3) hx hb d_M_be_46 (by decide) ?_
    have t39 : (wn x39 : Int) = v.toInt % 65536 := by rw [ex39, ex38]; exact wn_and16 v
    rw [ex43, show Int32.ofInt 1 = 1 from rfl, nI_1] at hl
    exact ih (k + 1) (upd f (1100 * to + k) x39) _ _ ls (by omega) (fun q hq => by rw [pk_un (by omega)]; exact h1 q (by omega)) (fun q hq => by
      by_cases h : q = k
      · rw [h, pk_us]
        rw [hv] at t39
        split at t39 <;> rename_i h9
        · rw [if_pos h9]; omega
        · rw [if_neg h9]; omega
      · rw [pk_un (by omega)]; exact h2 q (by omega)) hU (lv_sub hl [1, 2, 3, 0] rfl)
  have K : ∀ (d k : Nat) (f : Nat → Int32) (H : Heap) (locs : List Loc) (ls : Array Slot), k + d = 1100 → (∀ q, (q < 1100 * to ∨ 1100 * to + k ≤ q) → f q = F q) → (∀ q, q < k → wn (f (1100 * to + q)) = if q = 0 then w else 0) → Ms z (mF g f) s.heap H locs s → lv_has ls 5 [(0, .ref (oM z)), (1, .int (nI to)), (2, .long (lN w)), (4, .int (nI k))] → W p l e ({ frames := 1, cells := 0, slots := 0, locals := 23 } : Room) s m ([.ref (oM z), .int (nI to), .long (lN w)] : List Value).toArray below meth c H locs 0 0 (MQ below (va_Qv (fun g2 => ∃ f, g2 = mF g f ∧ dgOk f ∧ rsm g.2.2.2.2.2 f to ∧ rv f to = w) (mO z sz) (yA z sz)) ([.ref (oM z), .int (nI to), .long (lN w)] : List Value).toArray s 0 0 (yA z sz)) (F0 m 3 ls []) := by
    intro d
    induction d with
    | zero =>
      intro k f H locs ls hk h1 h2 hU hl
      have hk : k = 1100 := by omega
      subst hk
      refine lv_iload hx hb d_M_be_3 (lv_at hl 3 rfl) ?_
      refine lv_sipush (v := 1100) hx hb d_M_be_5 (by decide) ?_
      refine lv_icmp_ge (tgt := 49) hx hb d_M_be_8 (by decide) (fun c8 => ?_) (fun c8 => ?_)
      · subst eF
        exact m_vret hx hb hr hlocks hsz hU ⟨f, rfl, fun q hq => by
          by_cases h : q < 1100 * to ∨ 1100 * to + 1100 ≤ q
          · rw [h1 q h]; exact hok q hq
          · obtain ⟨u, rfl⟩ : ∃ u, q = 1100 * to + u := ⟨q - 1100 * to, by omega⟩
            rw [h2 u (by omega)]; split <;> omega, h1, dv_one h2⟩ d_M_be_49
      · exact absurd (Int32.le_refl _) c8
    | succ d ih =>
      intro k f H locs ls hk h1 h2 hU hl
      refine lv_iload hx hb d_M_be_3 (lv_at hl 3 rfl) ?_
      refine lv_sipush (v := 1100) hx hb d_M_be_5 (by decide) ?_
      refine lv_icmp_ge (tgt := 49) hx hb d_M_be_8 (by decide) (fun c8 => ?_) (fun c8 => ?_)
      · exact absurd c8 (nI_ge (a := k) (b := 1100) (by omega) (by decide))
      · refine lv_aload_n hx hb d_M_be_11 rfl (lv_at hl 0 rfl) ?_
        refine lv_iload_n hx hb d_M_be_12 rfl (lv_at hl 1 rfl) ?_
        refine lv_iload hx hb d_M_be_13 (lv_at hl 3 rfl) ?_
        refine lv_iload hx hb d_M_be_15 (lv_at hl 3 rfl) ?_
        refine lv_iconst (v := 4) hx hb d_M_be_17 (by decide) ?_
        refine lv_icmp_ge (tgt := 31) hx hb d_M_be_18 (by decide) (fun c18 => ?_) (fun c18 => ?_)
        · have h18 : 4 ≤ k := (nI_leI (a := 4) (b := k) (by decide) (by omega)).mp c18
          refine lv_lload_n hx hb d_M_be_31 rfl (lv_at hl 2 rfl) ?_
          refine lv_bipush (v := 63) hx hb d_M_be_32 (by decide) ?_
          refine lv_lshr hx hb d_M_be_34 rfl ?_
          refine lv_topl (fun x34 ex34 => ?_)
          exact EP d k f x34 _ _ ls ih hk h1 h2 (by
            have h9 : x34.toInt = (lN w).toInt / 2 ^ 63 := by rw [ex34]; exact Jvm.Kit.i64_shr (lN w) _ (k := 63) (by decide)
            rw [h9, tw, if_neg (by omega)]
            omega) hU (lv_sub hl [0, 1, 2, 3] rfl)
        · have h18 : k < 4 := Nat.lt_of_not_le (fun q => c18 ((nI_leI (a := 4) (b := k) (by decide) (by omega)).mpr q))
          refine lv_lload_n hx hb d_M_be_21 rfl (lv_at hl 2 rfl) ?_
          refine lv_bipush (v := 16) hx hb d_M_be_22 (by decide) ?_
          refine lv_iload hx hb d_M_be_24 (lv_at hl 3 rfl) ?_
          refine lv_imul hx hb d_M_be_26 ?_
          refine lv_topi (fun x26 ex26 => ?_)
          refine lv_lshr hx hb d_M_be_27 rfl ?_
          refine lv_topl (fun x27 ex27 => ?_)
          refine lv_goto (tgt := 35) hx hb d_M_be_28 (by decide) ?_
          have e26 : x26 = nI (16 * k) := by rw [ex26]; exact pk_mul 16 k
          exact EP d k f x27 _ _ ls ih hk h1 h2 (by
            rw [ex27, e26]
            rcases (show k = 0 ∨ k = 1 ∨ k = 2 ∨ k = 3 by omega) with rfl | rfl | rfl | rfl
            · rw [Jvm.Kit.i64_shr (lN w) _ (k := 0) (by decide), tw, if_pos rfl]; omega
            · rw [Jvm.Kit.i64_shr (lN w) _ (k := 16) (by decide), tw, if_neg (by decide)]; omega
            · rw [Jvm.Kit.i64_shr (lN w) _ (k := 32) (by decide), tw, if_neg (by decide)]; omega
            · rw [Jvm.Kit.i64_shr (lN w) _ (k := 48) (by decide), tw, if_neg (by decide)]; omega) hU (lv_sub hl [0, 1, 2, 3] rfl)
  refine lv_iconst (v := 0) hx hb d_M_be_0 (by decide) ?_
  refine lv_istore (lv' := [(4, .int 0), (0, .ref (oM z)), (1, .int (nI to)), (2, .long (lN w))]) hx hb d_M_be_1 hl (by decide) rfl (fun ls hl => ?_)
  exact K 1100 0 F _ _ ls (by decide) (fun _ _ => rfl) (fun q h => by omega) (by rw [eF]; exact hU) (lv_sub hl [1, 2, 3, 0] rfl)
set_option maxHeartbeats 4000000 in
set_option maxRecDepth 100000 in
theorem cm_halve (l : Launch) (z : YM) (sz : Nat) (g : SM) {i : Nat} (hi : i < 11) (hok : dgOk g.2.2.2.2.2) : Met l y_M_halve (zw y_M_halve b_M_halve 4 none) { frames := 1, cells := 0, slots := 0, locals := 23 } (va_Pc [.ref (oM z), .int (nI i)] (mI z g sz)) (va_Qv (fun g2 => ∃ f, g2 = mF g f ∧ dgOk f ∧ rsm g.2.2.2.2.2 f i ∧ rv f i = (rv g.2.2.2.2.2 i + (if 32767 < wn (g.2.2.2.2.2 (1100 * i + 1099)) then 1 else 0) * WW) / 2) (mO z sz) (yA z sz)) 0 0 (yA z sz) := by
  refine m_ofW (by decide) (Nat.le_of_ble_eq_true rfl) (fun p e s m below meth c hx hb hr hml hown hts hlocks hname hsz ls hU hl => ?_)
  have hl : lv_has ls 4 [(0, .ref (oM z)), (1, .int (nI i))] := hl
  obtain ⟨F, eF⟩ : ∃ y, y = g.2.2.2.2.2 := ⟨_, rfl⟩
  have hokF : dgOk F := by rw [eF]; exact hok
  obtain ⟨sg, esg⟩ : ∃ y, y = (if 32767 < wn (F (1100 * i + 1099)) then 1 else 0) := ⟨_, rfl⟩
  have hsg : sg ≤ 1 := by rw [esg]; split <;> omega
  have E : ∀ (d k : Nat) (nx : Nat) (f : Nat → Int32) (H : Heap) (locs : List Loc) (ls : Array Slot), (∀ (k : Nat) (f : Nat → Int32) (H : Heap) (locs : List Loc) (ls : Array Slot), k + d = 1100 → (∀ q, (q < 1100 * i ∨ 1100 * i + k ≤ q) → f q = F q) → (∀ q, q < k → wn (f (1100 * i + q)) < 65536) → 2 * dv f i k + wn (F (1100 * i)) % 2 = dv F i k + (if k < 1100 then wn (F (1100 * i + k)) % 2 else sg) * 65536 ^ k → Ms z (mF g f) s.heap H locs s → lv_has ls 4 [(0, .ref (oM z)), (1, .int (nI i)), (2, .int (nI k))] → W p l e ({ frames := 1, cells := 0, slots := 0, locals := 23 } : Room) s m ([.ref (oM z), .int (nI i)] : List Value).toArray below meth c H locs 0 0 (MQ below (va_Qv (fun g2 => ∃ f, g2 = mF g f ∧ dgOk f ∧ rsm g.2.2.2.2.2 f i ∧ rv f i = (rv g.2.2.2.2.2 i + (if 32767 < wn (g.2.2.2.2.2 (1100 * i + 1099)) then 1 else 0) * WW) / 2) (mO z sz) (yA z sz)) ([.ref (oM z), .int (nI i)] : List Value).toArray s 0 0 (yA z sz)) (F0 m 2 ls [])) → k + (d + 1) = 1100 → (∀ q, (q < 1100 * i ∨ 1100 * i + k ≤ q) → f q = F q) → (∀ q, q < k → wn (f (1100 * i + q)) < 65536) → 2 * dv f i k + wn (F (1100 * i)) % 2 = dv F i k + wn (F (1100 * i + k)) % 2 * 65536 ^ k → nx < 65536 → nx % 2 = (if k + 1 < 1100 then wn (F (1100 * i + (k + 1))) % 2 else sg) → Ms z (mF g f) s.heap H locs s → lv_has ls 4 [(0, .ref (oM z)), (1, .int (nI i)), (2, .int (nI k))] → W p l e ({ frames := 1, cells := 0, slots := 0, locals := 23 } : Room) s m ([.ref (oM z), .int (nI i)] : List Value).toArray below meth c H locs 0 0 (MQ below (va_Qv (fun g2 => ∃ f, g2 = mF g f ∧ dgOk f ∧ rsm g.2.2.2.2.2 f i ∧ rv f i = (rv g.2.2.2.2.2 i + (if 32767 < wn (g.2.2.2.2.2 (1100 * i + 1099)) then 1 else 0) * WW) / 2) (mO z sz) (yA z sz)) ([.ref (oM z), .int (nI i)] : List Value).toArray s 0 0 (yA z sz)) (F0 m 46 ls [.int (nI nx)]) := by
    intro d k nx f H locs ls ih hk h1 h2 hI hn1 hn2 hU hl
    refine lv_istore_n (lv' := [(3, .int (nI nx)), (0, .ref (oM z)), (1, .int (nI i)), (2, .int (nI k))]) hx hb d_M_halve_46 rfl hl (by decide) rfl (fun ls hl => ?_)
    refine lv_aload_n hx hb d_M_halve_47 rfl (lv_at hl 1 rfl) ?_
    refine lv_iload_n hx hb d_M_halve_48 rfl (lv_at hl 2 rfl) ?_
    refine lv_iload_n hx hb d_M_halve_49 rfl (lv_at hl 3 rfl) ?_
    refine lv_aload_n hx hb d_M_halve_50 rfl (lv_at hl 1 rfl) ?_
    refine lv_iload_n hx hb d_M_halve_51 rfl (lv_at hl 2 rfl) ?_
    refine lv_iload_n hx hb d_M_halve_52 rfl (lv_at hl 3 rfl) ?_
    refine m_calli (m_run (As := [.int (nI i), .int (nI k)]) (rest := [.int (nI k), .int (nI i), .ref (oM z)]) hx hb hml hown hts hU (cm_get l z _ (mF g f) hi (k := k) (by omega)) (w_M_get_cw hts k_M_33 rfl rfl ⟨Nat.le_of_ble_eq_true rfl, Nat.le_of_ble_eq_true rfl⟩) (m_recv hU) rfl hl.1 rfl (lv_room (Nat.le_of_ble_eq_true rfl)) d_M_halve_53 ⟨Nat.zero_le _, Nat.zero_le _⟩) hU (fun r53 g53 H locs hp hU => ?_)
    obtain ⟨rfl, q53⟩ := hp
    have q53 : r53 = F (1100 * i + k) := by rw [q53]; exact h1 _ (by omega)
    refine lv_iconst (v := 1) hx hb d_M_halve_56 (by decide) ?_
    refine lv_ishr hx hb d_M_halve_57 ?_
    refine lv_topi (fun x57 ex57 => ?_)
    refine lv_iload_n hx hb d_M_halve_58 rfl (lv_at hl 0 rfl) ?_
    refine lv_iconst (v := 1) hx hb d_M_halve_59 (by decide) ?_
    refine lv_iand hx hb d_M_halve_60 ?_
    refine lv_topi (fun x60 ex60 => ?_)
    refine lv_bipush (v := 15) hx hb d_M_halve_61 (by decide) ?_
    refine lv_ishl hx hb d_M_halve_63 ?_
    refine lv_topi (fun x63 ex63 => ?_)
    refine lv_ior hx hb d_M_halve_64 ?_
    refine lv_topi (fun x64 ex64 => ?_)
    refine m_callv (m_run (As := [.int (nI i), .int (nI k), .int x64]) (rest := []) hx hb hml hown hts hU (cm_put l z _ (mF g f) hi (k := k) (by omega) x64) (w_M_put_cw hts k_M_29 rfl rfl ⟨Nat.le_of_ble_eq_true rfl, Nat.le_of_ble_eq_true rfl⟩) (m_recv hU) rfl hl.1 rfl (lv_room (Nat.le_of_ble_eq_true rfl)) d_M_halve_65 ⟨Nat.zero_le _, Nat.zero_le _⟩) hU (fun g65 H locs hp hU => ?_)
    subst hp
    obtain ⟨x68, ex68⟩ : ∃ y : Int32, y = (nI k) + Int32.ofInt 1 := ⟨_, rfl⟩
    refine lv_iinc (v := x68) (lv' := [(2, .int x68), (3, .int (nI nx)), (0, .ref (oM z)), (1, .int (nI i))]) hx hb d_M_halve_68 hl (k := 3) rfl (by rw [ex68]) (by decide) rfl (fun ls hl => ?_)
    refine lv_goto (tgt := 2) hx hb d_M_halve_71 (by decide) ?_
    have w1 : wn (F (1100 * i + k)) < 65536 := hokF _ (by omega)
    have e53 : r53 = nI (wn (F (1100 * i + k))) := by rw [q53]; exact (nI_wn _).symm
    have e57 : x57 = nI (wn (F (1100 * i + k)) / 2) := by rw [ex57, e53]; exact pk_shrN (by omega) 1 1 (by decide)
    have e60 : x60 = nI (nx % 2) := by rw [ex60]; exact pk_andN (by omega) 1 (by decide)
    have e63 : x63 = nI (nx % 2 * 32768) := by rw [ex63, e60]; exact pk_shlN 15 15 (by decide) (by omega)
    have v64 : wn x64 = wn (F (1100 * i + k)) / 2 + nx % 2 * 32768 := by rw [ex64, e57, e63]; exact wn_or15 (by omega) (by omega)
    rw [ex68, show Int32.ofInt 1 = 1 from rfl, nI_1] at hl
    exact ih (k + 1) (upd f (1100 * i + k) x64) _ _ ls (by omega) (fun q hq => by rw [pk_un (by omega)]; exact h1 q (by omega)) (fun q hq => by
      by_cases h : q = k
      · rw [h, pk_us, v64]; omega
      · rw [pk_un (by omega)]; exact h2 q (by omega)) (by
      rw [dv_s, pk_us, dv_congr (f := upd f (1100 * i + k) x64) (g := f) (j := i) (fun q hq => pk_un (by omega)), v64, dv_s, ← hn2, Nat.pow_succ]
      exact dv_stepH hI) hU (lv_sub hl [2, 3, 0] rfl)
  have K : ∀ (d k : Nat) (f : Nat → Int32) (H : Heap) (locs : List Loc) (ls : Array Slot), k + d = 1100 → (∀ q, (q < 1100 * i ∨ 1100 * i + k ≤ q) → f q = F q) → (∀ q, q < k → wn (f (1100 * i + q)) < 65536) → 2 * dv f i k + wn (F (1100 * i)) % 2 = dv F i k + (if k < 1100 then wn (F (1100 * i + k)) % 2 else sg) * 65536 ^ k → Ms z (mF g f) s.heap H locs s → lv_has ls 4 [(0, .ref (oM z)), (1, .int (nI i)), (2, .int (nI k))] → W p l e ({ frames := 1, cells := 0, slots := 0, locals := 23 } : Room) s m ([.ref (oM z), .int (nI i)] : List Value).toArray below meth c H locs 0 0 (MQ below (va_Qv (fun g2 => ∃ f, g2 = mF g f ∧ dgOk f ∧ rsm g.2.2.2.2.2 f i ∧ rv f i = (rv g.2.2.2.2.2 i + (if 32767 < wn (g.2.2.2.2.2 (1100 * i + 1099)) then 1 else 0) * WW) / 2) (mO z sz) (yA z sz)) ([.ref (oM z), .int (nI i)] : List Value).toArray s 0 0 (yA z sz)) (F0 m 2 ls []) := by
    intro d
    induction d with
    | zero =>
      intro k f H locs ls hk h1 h2 hI hU hl
      have hk : k = 1100 := by omega
      subst hk
      refine lv_iload_n hx hb d_M_halve_2 rfl (lv_at hl 2 rfl) ?_
      refine lv_sipush (v := 1100) hx hb d_M_halve_3 (by decide) ?_
      refine lv_icmp_ge (tgt := 74) hx hb d_M_halve_6 (by decide) (fun c6 => ?_) (fun c6 => ?_)
      · subst eF
        rw [if_neg (by decide)] at hI
        have hI : 2 * rv f i + wn (g.2.2.2.2.2 (1100 * i)) % 2 = rv g.2.2.2.2.2 i + sg * WW := by rw [WW_def]; exact hI
        exact m_vret hx hb hr hlocks hsz hU ⟨f, rfl, fun q hq => by
          by_cases h : q < 1100 * i ∨ 1100 * i + 1100 ≤ q
          · rw [h1 q h]; exact hok q hq
          · obtain ⟨u, rfl⟩ : ∃ u, q = 1100 * i + u := ⟨q - 1100 * i, by omega⟩
            exact h2 u (by omega), h1, by rw [← esg]; omega⟩ d_M_halve_74
      · exact absurd (Int32.le_refl _) c6
    | succ d ih =>
      intro k f H locs ls hk h1 h2 hI hU hl
      rw [if_pos (by omega)] at hI
      refine lv_iload_n hx hb d_M_halve_2 rfl (lv_at hl 2 rfl) ?_
      refine lv_sipush (v := 1100) hx hb d_M_halve_3 (by decide) ?_
      refine lv_icmp_ge (tgt := 74) hx hb d_M_halve_6 (by decide) (fun c6 => ?_) (fun c6 => ?_)
      · exact absurd c6 (nI_ge (a := k) (b := 1100) (by omega) (by decide))
      · refine lv_iload_n hx hb d_M_halve_9 rfl (lv_at hl 2 rfl) ?_
        refine lv_iconst (v := 1) hx hb d_M_halve_10 (by decide) ?_
        refine lv_iadd hx hb d_M_halve_11 ?_
        refine lv_topi (fun x11 ex11 => ?_)
        refine lv_sipush (v := 1100) hx hb d_M_halve_12 (by decide) ?_
        have e11 : x11 = nI (k + 1) := by rw [ex11]; exact nI_1 k
        refine lv_icmp_ge (tgt := 29) hx hb d_M_halve_15 (by decide) (fun c15 => ?_) (fun c15 => ?_)
        · have h15 : k = 1099 := by
            rw [e11] at c15
            have := (nI_leI (a := 1100) (b := k + 1) (by decide) (by omega)).mp c15
            omega
          refine lv_aload_n hx hb d_M_halve_29 rfl (lv_at hl 0 rfl) ?_
          refine lv_iload_n hx hb d_M_halve_30 rfl (lv_at hl 1 rfl) ?_
          refine lv_iload_n hx hb d_M_halve_31 rfl (lv_at hl 2 rfl) ?_
          refine m_calli (m_run (As := [.int (nI i), .int (nI k)]) (rest := []) hx hb hml hown hts hU (cm_get l z _ (mF g f) hi (k := k) (by omega)) (w_M_get_cw hts k_M_33 rfl rfl ⟨Nat.le_of_ble_eq_true rfl, Nat.le_of_ble_eq_true rfl⟩) (m_recv hU) rfl hl.1 rfl (lv_room (Nat.le_of_ble_eq_true rfl)) d_M_halve_32 ⟨Nat.zero_le _, Nat.zero_le _⟩) hU (fun r32 g32 H locs hp hU => ?_)
          obtain ⟨rfl, q32⟩ := hp
          have q32 : r32 = F (1100 * i + k) := by rw [q32]; exact h1 _ (by omega)
          have w1 : wn (F (1100 * i + k)) < 65536 := hokF _ (by omega)
          have t32 : r32.toInt = (wn (F (1100 * i + k)) : Int) := by rw [q32]; exact dg_int w1
          refine lv_sipush (v := 32767) hx hb d_M_halve_35 (by decide) ?_
          refine lv_icmp_le (tgt := 45) hx hb d_M_halve_38 (by decide) (fun c38 => ?_) (fun c38 => ?_)
          · have h38 : ¬ 32767 < wn (F (1100 * i + k)) := by
              rw [Int32.le_iff_toInt_le, t32, show (32767 : Int32).toInt = 32767 from rfl] at c38
              omega
            refine lv_iconst (v := 0) hx hb d_M_halve_45 (by decide) ?_
            exact E d k 0 f _ _ ls ih hk h1 h2 hI (by decide) (by rw [if_neg (by omega), esg, ← h15, if_neg h38]) hU (lv_sub hl [0, 1, 2] rfl)
          · have h38 : 32767 < wn (F (1100 * i + k)) := by
              rw [Int32.le_iff_toInt_le, t32, show (32767 : Int32).toInt = 32767 from rfl] at c38
              omega
            refine lv_iconst (v := 1) hx hb d_M_halve_41 (by decide) ?_
            refine lv_goto (tgt := 46) hx hb d_M_halve_42 (by decide) ?_
            exact E d k 1 f _ _ ls ih hk h1 h2 hI (by decide) (by rw [if_neg (by omega), esg, ← h15, if_pos h38]) hU (lv_sub hl [0, 1, 2] rfl)
        · have h15 : k + 1 < 1100 := Nat.lt_of_not_le (fun q => c15 (by rw [e11]; exact (nI_leI (a := 1100) (b := k + 1) (by decide) (by omega)).mpr q))
          refine lv_aload_n hx hb d_M_halve_18 rfl (lv_at hl 0 rfl) ?_
          refine lv_iload_n hx hb d_M_halve_19 rfl (lv_at hl 1 rfl) ?_
          refine lv_iload_n hx hb d_M_halve_20 rfl (lv_at hl 2 rfl) ?_
          refine lv_iconst (v := 1) hx hb d_M_halve_21 (by decide) ?_
          refine lv_iadd hx hb d_M_halve_22 ?_
          refine lv_topi (fun x22 ex22 => ?_)
          have e22 : x22 = nI (k + 1) := by rw [ex22]; exact nI_1 k
          rw [e22]
          refine m_calli (m_run (As := [.int (nI i), .int (nI (k + 1))]) (rest := []) hx hb hml hown hts hU (cm_get l z _ (mF g f) hi (k := k + 1) h15) (w_M_get_cw hts k_M_33 rfl rfl ⟨Nat.le_of_ble_eq_true rfl, Nat.le_of_ble_eq_true rfl⟩) (m_recv hU) rfl hl.1 rfl (lv_room (Nat.le_of_ble_eq_true rfl)) d_M_halve_23 ⟨Nat.zero_le _, Nat.zero_le _⟩) hU (fun r23 g23 H locs hp hU => ?_)
          obtain ⟨rfl, q23⟩ := hp
          have q23 : r23 = nI (wn (F (1100 * i + (k + 1)))) := by rw [q23]; exact (h1 _ (by omega)).trans (nI_wn _).symm
          refine lv_goto (tgt := 46) hx hb d_M_halve_26 (by decide) ?_
          rw [q23]
          exact E d k (wn (F (1100 * i + (k + 1)))) f _ _ ls ih hk h1 h2 hI (hokF _ (by omega)) (by rw [if_pos h15]) hU (lv_sub hl [0, 1, 2] rfl)
  refine lv_iconst (v := 0) hx hb d_M_halve_0 (by decide) ?_
  refine lv_istore_n (lv' := [(2, .int 0), (0, .ref (oM z)), (1, .int (nI i))]) hx hb d_M_halve_1 rfl hl (by decide) rfl (fun ls hl => ?_)
  exact K 1100 0 F _ _ ls (by decide) (fun _ _ => rfl) (fun q h => by omega) (by rw [if_pos (by decide)]; show 2 * 0 + wn (F (1100 * i)) % 2 = 0 + wn (F (1100 * i + 0)) % 2 * 1; rw [Nat.add_zero]; omega) (by rw [eF]; exact hU) (lv_sub hl [1, 2, 0] rfl)
