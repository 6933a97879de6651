/-! take -/
theorem like4 (d : Int) : (d.tmod 4 < 0 → d.tmod 4 + 4 = d % 4) ∧ (¬ d.tmod 4 < 0 → d.tmod 4 = d % 4) ∧ (0 ≤ d → 0 ≤ d.tmod 4) ∧ (d < 0 → d.tmod 4 ≤ 0) := by
  rcases Int.lt_or_le d 0 with h | h
  · have e : d.tmod 4 = -((-d) % 4) := by
      rw [← Int.tmod_eq_emod_of_nonneg (show 0 ≤ -d by omega), Int.neg_tmod, Int.neg_neg]
    omega
  · have e : d.tmod 4 = d % 4 := Int.tmod_eq_emod_of_nonneg h
    omega
theorem rem4 (v : Int32) : (v - v / 4 * 4).toInt = v.toInt.tmod 4 := by
  have h := i32_rng v
  have e := Int.tmod_add_mul_tdiv v.toInt 4
  obtain ⟨l1, l2, l3, l4⟩ := like4 v.toInt
  have hm := Int.emod_lt_of_pos v.toInt (show (0 : Int) < 4 by decide)
  have hm0 := Int.emod_nonneg v.toInt (show (4 : Int) ≠ 0 by decide)
  have d1 : (v / 4).toInt = v.toInt.tdiv 4 := by
    rw [Jvm.Kit.i32_div (by intro q; exact absurd q.2 (by decide))]
    rfl
  generalize v.toInt.tdiv 4 = q at e d1
  generalize v.toInt.tmod 4 = r at e l1 l2 l3 l4 ⊢
  generalize v.toInt % 4 = r4 at l1 l2 hm hm0
  have hr1 : -4 ≤ r ∧ r ≤ 3 := by
    rcases Int.lt_or_le r 0 with w | w
    · have := l1 w; omega
    · have := l2 (by omega); omega
  have hr2 : (0 ≤ r ∧ 0 ≤ v.toInt) ∨ (r ≤ 0 ∧ v.toInt < 0) := by
    rcases Int.lt_or_le v.toInt 0 with w | w
    · exact Or.inr ⟨l4 w, w⟩
    · exact Or.inl ⟨l3 w, w⟩
  have d2 : (v / 4 * 4).toInt = q * 4 := by rw [Jvm.Kit.i32_mul] <;> rw [d1, show (4 : Int32).toInt = 4 from rfl] <;> omega
  rw [Jvm.Kit.i32_sub] <;> rw [d2] <;> omega
theorem sqr_rt {V : Nat} (h : V ≤ 1048576) : sqr V = rt (V : Int) := by
  obtain ⟨a, b⟩ := sqr_spec (show V < 2147483648 by omega)
  obtain ⟨c, d⟩ := rt_spec (d := (V : Int)) (by omega) (by omega)
  exact sq_uniq a b (Int.ofNat_le.mp c) (Int.ofNat_lt.mp d)
set_option maxHeartbeats 4000000 in
set_option maxRecDepth 100000 in
theorem cm_take (l : Launch) (z : YM) (sz : Nat) (g : SM) (v : Int32) (hnt : ∀ D, dOk D → NTok D) (hok : dgOk g.2.2.2.2.2) : Met l y_M_take (zw y_M_take b_M_take 5 (some .int)) { frames := 5, cells := 0, slots := 0, locals := 131 } (va_Pc [.ref (oM z), .int v] (mI z g sz)) (va_Qi (fun r g2 => (tk v.toInt → g2.1 = 0 ∧ mS g2 v.toInt 1 (v.toInt % 2) ((v.toInt % 2 - v.toInt) / 4) ∧ r = nI (bl (uW v.toInt).1)) ∧ (¬ tk v.toInt → g2 = mC g 1)) (mO z sz) (yA z sz)) 0 0 (yA z sz) := by
  refine m_ofW (by decide) (Nat.le_of_ble_eq_true rfl) (fun p e s m below meth c hx hb hr hml hown hts hlocks hname hsz ls hU hl => ?_)
  have hl : lv_has ls 5 [(0, .ref (oM z)), (1, .int v)] := hl
  have hvr := i32_rng v
  obtain ⟨d, ed⟩ : ∃ d, d = v.toInt := ⟨_, rfl⟩
  rw [← ed] at hvr
  have E72 : ∀ (cd : Int32) (H : Heap) (locs : List Loc) (ls : Array Slot), (cd = 0 ∧ tk d ∨ cd = 1 ∧ ¬ tk d) → Ms z g s.heap H locs s → lv_has ls 5 [(0, .ref (oM z)), (1, .int v)] → W p l e ({ frames := 5, cells := 0, slots := 0, locals := 131 } : Room) s m ([.ref (oM z), .int v] : List Value).toArray below meth c H locs 0 0 (MQ below (va_Qi (fun r g2 => (tk v.toInt → g2.1 = 0 ∧ mS g2 v.toInt 1 (v.toInt % 2) ((v.toInt % 2 - v.toInt) / 4) ∧ r = nI (bl (uW v.toInt).1)) ∧ (¬ tk v.toInt → g2 = mC g 1)) (mO z sz) (yA z sz)) ([.ref (oM z), .int v] : List Value).toArray s 0 0 (yA z sz)) (F0 m 72 ls [.int cd, .ref (oM z)]) := by
    intro cd H locs ls hc hU hl
    refine mp_C hx hb hts hown hU (hts _ k_M_23) d_M_take_72 (fun H locs hU => ?_)
    generalize eg72 : mC g cd = g72 at hU
    refine lv_aload_n hx hb d_M_take_75 rfl (lv_at hl 0 rfl) ?_
    refine va_get (D := z.1) (ci := 3) (v := .int g72.1) (C := R_M) (T := F_M) (N := 9) hx hb hts in_M hown hU.2.1 hU.1 0 rfl rfl 0 (by decide) (hts _ k_M_23) (fun _ h9 => h9) rfl d_M_take_76 ?_
    refine lv_topi (fun x76 ex76 => ?_)
    have e76 : x76 = cd := by rw [ex76, ← eg72]; rfl
    refine lv_if_le (tgt := 84) hx hb d_M_take_79 (by decide) (fun c79 => ?_) (fun c79 => ?_)
    · have hc0 : cd = 0 ∧ tk d := hc.resolve_right fun q => by rw [e76, q.1] at c79; exact absurd c79 (by decide)
      refine lv_aload_n hx hb d_M_take_84 rfl (lv_at hl 0 rfl) ?_
      refine lv_iload_n hx hb d_M_take_85 rfl (lv_at hl 1 rfl) ?_
      refine lv_i2l hx hb d_M_take_86 rfl ?_
      refine lv_topl (fun x86 ex86 => ?_)
      have t86 : x86.toInt = d := by rw [ex86, ed]; exact Jvm.Kit.i64_of_i32 v
      refine m_callv (m_run (As := [.long x86]) (rest := []) hx hb hml hown hts hU (cm_begin l z _ g72 (d := d) (v := x86) t86 hc0.2 hnt (by rw [← eg72]; exact hok)) (w_M_begin_cw hts k_M_19 rfl rfl ⟨Nat.le_of_ble_eq_true rfl, Nat.le_of_ble_eq_true rfl⟩) (m_recv hU) rfl hl.1 rfl (lv_room (Nat.le_of_ble_eq_true rfl)) d_M_take_87 ⟨Nat.zero_le _, Nat.zero_le _⟩) hU (fun g87 H locs hp hU => ?_)
      obtain ⟨p1, p2⟩ := hp
      refine lv_aload_n hx hb d_M_take_90 rfl (lv_at hl 0 rfl) ?_
      refine lv_iconst (v := 0) hx hb d_M_take_91 (by decide) ?_
      refine m_calli (m_run (As := [.int 0]) (rest := []) hx hb hml hown hts hU (cm_bitsOf l z _ g87 (i := 0) (by decide) p2.2.2.2.1) (w_M_bitsOf_cw hts k_M_92 rfl rfl ⟨Nat.le_of_ble_eq_true rfl, Nat.le_of_ble_eq_true rfl⟩) (m_recv hU) rfl hl.1 rfl (lv_room (Nat.le_of_ble_eq_true rfl)) d_M_take_92 ⟨Nat.zero_le _, Nat.zero_le _⟩) hU (fun r92 g92 H locs hp hU => ?_)
      obtain ⟨f, rfl, k2, k3, k4⟩ := hp
      exact m_iret hx hb hr hlocks hsz hU ⟨fun _ => ⟨p1.trans (by rw [← eg72]; exact hc0.1), by rw [← ed]; exact p2.keep k2 k3, by rw [k4, p2.2.2.2.2.1.1, ← ed]; rfl⟩, fun q => absurd (ed ▸ hc0.2) q⟩ d_M_take_95
    · have hc1 : cd = 1 ∧ ¬ tk d := hc.resolve_left fun q => c79 (by rw [e76, q.1]; decide)
      refine lv_iconst (v := 0) hx hb d_M_take_82 (by decide) ?_
      exact m_iret hx hb hr hlocks hsz hU ⟨fun q => absurd (ed ▸ q) hc1.2, fun _ => by rw [← eg72, hc1.1]⟩ d_M_take_83
  have E31 : ∀ (w : Int64) (lk : Int32) (H : Heap) (locs : List Loc) (ls : Array Slot), (0 ≤ d → w = lN (sqr d.toNat)) → lk.toInt = d % 4 → Ms z g s.heap H locs s → lv_has ls 5 [(0, .ref (oM z)), (1, .int v), (2, .long w)] → W p l e ({ frames := 5, cells := 0, slots := 0, locals := 131 } : Room) s m ([.ref (oM z), .int v] : List Value).toArray below meth c H locs 0 0 (MQ below (va_Qi (fun r g2 => (tk v.toInt → g2.1 = 0 ∧ mS g2 v.toInt 1 (v.toInt % 2) ((v.toInt % 2 - v.toInt) / 4) ∧ r = nI (bl (uW v.toInt).1)) ∧ (¬ tk v.toInt → g2 = mC g 1)) (mO z sz) (yA z sz)) ([.ref (oM z), .int v] : List Value).toArray s 0 0 (yA z sz)) (F0 m 31 ls [.int lk]) := by
    intro w lk H locs ls hw hk hU hl
    refine lv_istore (lv' := [(4, .int lk), (0, .ref (oM z)), (1, .int v), (2, .long w)]) hx hb d_M_take_31 hl (by decide) rfl (fun ls hl => ?_)
    refine lv_aload_n hx hb d_M_take_33 rfl (lv_at hl 1 rfl) ?_
    refine lv_iload_n hx hb d_M_take_34 rfl (lv_at hl 2 rfl) ?_
    refine lv_i2l hx hb d_M_take_35 rfl ?_
    refine lv_topl (fun x35 ex35 => ?_)
    refine lv_ldc2 (v := (-1048576)) hx hb hown (hts _ k_M_84) d_M_take_36 ?_
    refine lv_ldc2 (v := 1048576) hx hb hown (hts _ k_M_86) d_M_take_39 ?_
    have t35 : x35.toInt = d := by rw [ex35, ed]; exact Jvm.Kit.i64_of_i32 v
    refine pr_call (As := [.long x35, .long (-1048576), .long 1048576]) (rest := [.ref (oM z)]) hx hb hml hown hts (cm_in l x35 (-1048576) 1048576) (w_M_in_cw hts k_M_88 rfl rfl ⟨Nat.le_of_ble_eq_true rfl, Nat.le_of_ble_eq_true rfl⟩) rfl hl.1 rfl (lv_room (Nat.le_of_ble_eq_true rfl)) d_M_take_42 ⟨Nat.zero_le _, Nat.zero_le _⟩ ?_
    refine lv_topi (fun x42 ex42 => ?_)
    rw [t35, show (-1048576 : Int64).toInt = -1048576 from rfl, show (1048576 : Int64).toInt = 1048576 from rfl] at ex42
    refine lv_if_eq (tgt := 71) hx hb d_M_take_45 (by decide) (fun c45 => ?_) (fun c45 => ?_)
    · have h45 : ¬ tk d := fun q => by rw [ex42, if_pos ⟨q.1, q.2.1⟩] at c45; exact absurd c45 (by decide)
      refine lv_iconst (v := 1) hx hb d_M_take_71 (by decide) ?_
      exact E72 1 _ _ ls (Or.inr ⟨rfl, h45⟩) hU (lv_sub hl [1, 2] rfl)
    · have h45 : -1048576 ≤ d ∧ d ≤ 1048576 := Classical.byContradiction fun q => c45 (by rw [ex42, if_neg q])
      refine lv_iload hx hb d_M_take_48 (lv_at hl 0 rfl) ?_
      refine lv_iconst (v := 2) hx hb d_M_take_50 (by decide) ?_
      refine lv_icmp_ge (tgt := 71) hx hb d_M_take_51 (by decide) (fun c51 => ?_) (fun c51 => ?_)
      · have h51 : ¬ tk d := fun q => by
          have w := Int32.le_iff_toInt_le.mp c51
          rw [hk, show (2 : Int32).toInt = 2 from rfl] at w
          have := q.2.2.1
          omega
        refine lv_iconst (v := 1) hx hb d_M_take_71 (by decide) ?_
        exact E72 1 _ _ ls (Or.inr ⟨rfl, h51⟩) hU (lv_sub hl [1, 2] rfl)
      · have h51 : d % 4 ≤ 1 := by
          have w : ¬ (2 : Int32).toInt ≤ lk.toInt := fun q => c51 (Int32.le_iff_toInt_le.mpr q)
          rw [hk, show (2 : Int32).toInt = 2 from rfl] at w
          omega
        refine lv_iload_n hx hb d_M_take_54 rfl (lv_at hl 2 rfl) ?_
        refine lv_if_lt (tgt := 67) hx hb d_M_take_55 (by decide) (fun c55 => ?_) (fun c55 => ?_)
        · have h55 : d < 0 := by rw [ed]; exact Int32.lt_iff_toInt_lt.mp c55
          refine lv_iconst (v := 0) hx hb d_M_take_67 (by decide) ?_
          refine lv_goto (tgt := 72) hx hb d_M_take_68 (by decide) ?_
          exact E72 0 _ _ ls (Or.inl ⟨rfl, h45.1, h45.2, h51, by omega⟩) hU (lv_sub hl [1, 2] rfl)
        · have h55 : 0 ≤ d := by
            rcases Int.lt_or_le d 0 with q | q
            · exact absurd (Int32.lt_iff_toInt_lt.mpr (by rw [← ed]; exact q)) c55
            · exact q
          have hV : d.toNat ≤ 1048576 := by omega
          have hq := sqr_rt hV
          have hdd : ((d.toNat : Nat) : Int) = d := by omega
          rw [hdd] at hq
          have hqs := (sqr_spec (show d.toNat < 2147483648 by omega)).1
          refine lv_lload_n hx hb d_M_take_58 rfl (lv_at hl 3 rfl) ?_
          refine lv_lload_n hx hb d_M_take_59 rfl (lv_at hl 3 rfl) ?_
          refine lv_lmul hx hb d_M_take_60 ?_
          refine lv_topl (fun x60 ex60 => ?_)
          refine lv_iload_n hx hb d_M_take_61 rfl (lv_at hl 2 rfl) ?_
          refine lv_i2l hx hb d_M_take_62 rfl ?_
          refine lv_topl (fun x62 ex62 => ?_)
          refine W.lcmp hx hb d_M_take_63 ?_
          have e60 : x60 = lN (sqr d.toNat * sqr d.toNat) := by rw [ex60, hw h55, lN_mul]
          have e62 : x62 = lN d.toNat := by
            apply Int64.toInt_inj.mp
            rw [pk_lT (by omega), ex62, Jvm.Kit.i64_of_i32, ← ed]
            omega
          refine lv_if_eq (tgt := 71) hx hb d_M_take_64 (by decide) (fun c64 => ?_) (fun c64 => ?_)
          · have h64 : ¬ tk d := fun q => by
              have w := (lg_cmp_eq _ _).mp c64
              rw [e60, e62, pk_lEQ (by omega) (by omega)] at w
              rw [hq] at w
              exact q.2.2.2 (by rw [w]; exact hdd)
            refine lv_iconst (v := 1) hx hb d_M_take_71 (by decide) ?_
            exact E72 1 _ _ ls (Or.inr ⟨rfl, h64⟩) hU (lv_sub hl [1, 2] rfl)
          · have h64 : tk d := ⟨h45.1, h45.2, h51, fun q => c64 ((lg_cmp_eq _ _).mpr (by
              rw [e60, e62, pk_lEQ (by omega) (by omega), hq]
              exact Int.ofNat_inj.mp (q.trans hdd.symm)))⟩
            refine lv_iconst (v := 0) hx hb d_M_take_67 (by decide) ?_
            refine lv_goto (tgt := 72) hx hb d_M_take_68 (by decide) ?_
            exact E72 0 _ _ ls (Or.inl ⟨rfl, h64⟩) hU (lv_sub hl [1, 2] rfl)
  have E13 : ∀ (w : Int64) (H : Heap) (locs : List Loc) (ls : Array Slot), (0 ≤ d → w = lN (sqr d.toNat)) → Ms z g s.heap H locs s → lv_has ls 5 [(0, .ref (oM z)), (1, .int v)] → W p l e ({ frames := 5, cells := 0, slots := 0, locals := 131 } : Room) s m ([.ref (oM z), .int v] : List Value).toArray below meth c H locs 0 0 (MQ below (va_Qi (fun r g2 => (tk v.toInt → g2.1 = 0 ∧ mS g2 v.toInt 1 (v.toInt % 2) ((v.toInt % 2 - v.toInt) / 4) ∧ r = nI (bl (uW v.toInt).1)) ∧ (¬ tk v.toInt → g2 = mC g 1)) (mO z sz) (yA z sz)) ([.ref (oM z), .int v] : List Value).toArray s 0 0 (yA z sz)) (F0 m 13 ls [.long w]) := by
    intro w H locs ls hw hU hl
    have hne16 : ¬ (4 : Int32) = 0 := by decide
    have hne22 := hne16
    have hne30 := hne16
    have hr4 : ∀ x : Int32, x = v - v / 4 * 4 → x.toInt = d.tmod 4 := fun x hx => by rw [hx, rem4, ed]
    obtain ⟨l1, l2, -⟩ := like4 d
    have hm := Int.emod_lt_of_pos d (show (0 : Int) < 4 by decide)
    have hm0 := Int.emod_nonneg d (show (4 : Int) ≠ 0 by decide)
    refine lv_lstore_n (lv' := [(2, .long w), (0, .ref (oM z)), (1, .int v)]) hx hb d_M_take_13 rfl hl (by decide) rfl (fun ls hl => ?_)
    refine lv_iload_n hx hb d_M_take_14 rfl (lv_at hl 2 rfl) ?_
    refine lv_iconst (v := 4) hx hb d_M_take_15 (by decide) ?_
    refine lv_irem hx hb d_M_take_16 hne16 ?_
    refine lv_topi (fun x16 ex16 => ?_)
    have t16 := hr4 x16 ex16
    refine lv_if_ge (tgt := 28) hx hb d_M_take_17 (by decide) (fun c17 => ?_) (fun c17 => ?_)
    · have h17 : ¬ d.tmod 4 < 0 := fun q => by
        have w := Int32.le_iff_toInt_le.mp c17
        rw [t16, show (0 : Int32).toInt = 0 from rfl] at w
        omega
      refine lv_iload_n hx hb d_M_take_28 rfl (lv_at hl 2 rfl) ?_
      refine lv_iconst (v := 4) hx hb d_M_take_29 (by decide) ?_
      refine lv_irem hx hb d_M_take_30 hne30 ?_
      refine lv_topi (fun x30 ex30 => ?_)
      have t30 := hr4 x30 ex30
      exact E31 w x30 _ _ ls hw (by rw [t30]; exact l2 h17) hU (lv_sub hl [1, 2, 0] rfl)
    · have h17 : d.tmod 4 < 0 := by
        rcases Int.lt_or_le (d.tmod 4) 0 with q | q
        · exact q
        · exact absurd (Int32.le_iff_toInt_le.mpr (by rw [t16]; exact q)) c17
      refine lv_iload_n hx hb d_M_take_20 rfl (lv_at hl 2 rfl) ?_
      refine lv_iconst (v := 4) hx hb d_M_take_21 (by decide) ?_
      refine lv_irem hx hb d_M_take_22 hne22 ?_
      refine lv_topi (fun x22 ex22 => ?_)
      refine lv_iconst (v := 4) hx hb d_M_take_23 (by decide) ?_
      refine lv_iadd hx hb d_M_take_24 ?_
      refine lv_topi (fun x24 ex24 => ?_)
      refine lv_goto (tgt := 31) hx hb d_M_take_25 (by decide) ?_
      have t22 := hr4 x22 ex22
      have t24 : x24.toInt = d.tmod 4 + 4 := by
        have := l1 h17
        rw [ex24, Jvm.Kit.i32_add] <;> rw [t22, show (4 : Int32).toInt = 4 from rfl] <;> omega
      exact E31 w x24 _ _ ls hw (by rw [t24]; exact l1 h17) hU (lv_sub hl [1, 2, 0] rfl)
  refine lv_iload_n hx hb d_M_take_0 rfl (lv_at hl 1 rfl) ?_
  refine lv_if_ge (tgt := 8) hx hb d_M_take_1 (by decide) (fun c1 => ?_) (fun c1 => ?_)
  · have h1 : 0 ≤ d := by rw [ed]; exact Int32.le_iff_toInt_le.mp c1
    refine lv_iload_n hx hb d_M_take_8 rfl (lv_at hl 1 rfl) ?_
    refine lv_i2l hx hb d_M_take_9 rfl ?_
    refine lv_topl (fun x9 ex9 => ?_)
    have e9 : x9 = lN d.toNat := by
      apply Int64.toInt_inj.mp
      rw [pk_lT (by omega), ex9, Jvm.Kit.i64_of_i32, ← ed]
      omega
    refine pr_call (As := [.long x9]) (rest := []) hx hb hml hown hts (by rw [e9]; exact cm_wholeRoot l (V := d.toNat) (by omega)) (w_M_wholeRoot_cw hts k_M_65 rfl rfl ⟨Nat.le_of_ble_eq_true rfl, Nat.le_of_ble_eq_true rfl⟩) rfl hl.1 rfl (lv_room (Nat.le_of_ble_eq_true rfl)) d_M_take_10 ⟨Nat.zero_le _, Nat.zero_le _⟩ ?_
    refine lv_topl (fun x10 ex10 => ?_)
    exact E13 x10 _ _ ls (fun _ => ex10) hU hl
  · have h1 : ¬ 0 ≤ d := fun q => c1 (Int32.le_iff_toInt_le.mpr (by rw [← ed]; exact q))
    refine lv_lconst (v := 0) hx hb d_M_take_4 (by decide) ?_
    refine lv_goto (tgt := 13) hx hb d_M_take_5 (by decide) ?_
    exact E13 0 _ _ ls (fun q => absurd q h1) hU hl
