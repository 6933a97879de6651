/-! two methods of the JDK: floorMod of longs, numberOfLeadingZeros -/
theorem fmod_neg {x m : Int} (hx : x < 0) (hm : 0 < m) : (x.tmod m = 0 → x % m = 0) ∧ (¬ x.tmod m = 0 → x.tmod m + m = x % m ∧ -m < x.tmod m ∧ x.tmod m < 0) := by
  have e : x.tmod m = -((-x) % m) := by rw [← Int.tmod_eq_emod_of_nonneg (show 0 ≤ -x by omega), Int.neg_tmod, Int.neg_neg]
  have d := Int.emod_add_mul_ediv (-x) m
  have k0 := Int.emod_nonneg (-x) (show m ≠ 0 by omega)
  have k1 := Int.emod_lt_of_pos (-x) hm
  rw [e]
  generalize (-x) % m = k at d k0 k1
  generalize (-x) / m = q at d
  constructor
  · intro h
    have hk : k = 0 := by omega
    have : x = m * (-q) := by rw [Int.mul_neg]; omega
    rw [this]
    exact Int.mul_emod_right _ _
  · intro h
    refine ⟨?_, by omega, by omega⟩
    have h2 : x = (-k + m) + m * (-q - 1) := by rw [Int.mul_sub, Int.mul_neg, Int.mul_one]; omega
    have h3 : x % m = (-k + m) % m := by rw [h2, Int.add_mul_emod_self_left]
    rw [h3]
    exact (Int.emod_eq_of_lt (by omega) (by omega)).symm
theorem xor_neg (x m : Int64) (hm : 0 < m.toInt) : (x ^^^ m).toInt < 0 ↔ x.toInt < 0 := by
  have h1 : (x ^^^ m).toBitVec.msb = (x.toBitVec.msb ^^ m.toBitVec.msb) := BitVec.msb_xor
  have h2 := BitVec.msb_eq_toInt (x := (x ^^^ m).toBitVec)
  have h3 := BitVec.msb_eq_toInt (x := x.toBitVec)
  have h4 := BitVec.msb_eq_toInt (x := m.toBitVec)
  have h5 : decide (m.toBitVec.toInt < 0) = false := decide_eq_false (by have : m.toBitVec.toInt = m.toInt := rfl; omega)
  rw [h4, h5, Bool.xor_false, h2, h3] at h1
  exact decide_eq_decide.mp h1
theorem ofInt_emod {x m : Int64} (hm : 0 < m.toInt) : (Int64.ofInt (x.toInt % m.toInt)).toInt = x.toInt % m.toInt := by
  have k0 := Int.emod_nonneg x.toInt (show m.toInt ≠ 0 by omega)
  have k1 := Int.emod_lt_of_pos x.toInt hm
  have k2 := Int64.toInt_lt m
  exact Int64.toInt_ofInt_of_le (by omega) (by omega)
set_option maxHeartbeats 4000000 in
set_option maxRecDepth 100000 in
theorem c_floorMod (l : Launch) (x m9 : Int64) (hm : 0 < m9.toInt) : Met l y_JM_floorMod (zw y_JM_floorMod b_JM_floorMod 6 (some .long)) { frames := 0, cells := 0, slots := 0, locals := 0 } (va_Pc [.long x, .long m9] (fun _ => True)) (prQ (.long (Int64.ofInt (x.toInt % m9.toInt)))) 0 0 (fun _ => False) := by
  refine pr_ofW (by decide +kernel) (Nat.le_of_ble_eq_true rfl) (fun p e s m below meth c hx hb hr hml hown hts hlocks ls hl => ?_)
  have hl : lv_has ls 6 [(0, .long x), (2, .long m9)] := hl
  have hne2 : ¬ m9 = 0 := fun q => by rw [q] at hm; exact absurd hm (by decide)
  have hfin : ∀ r : Int64, r.toInt = x.toInt % m9.toInt → r = Int64.ofInt (x.toInt % m9.toInt) := fun r h => Int64.toInt_inj.mp (by rw [h, ofInt_emod hm])
  refine lv_lload_n hx hb d_JM_floorMod_0 rfl (lv_at hl 0 rfl) ?_
  refine lv_lload_n hx hb d_JM_floorMod_1 rfl (lv_at hl 1 rfl) ?_
  refine lv_lrem hx hb d_JM_floorMod_2 hne2 ?_
  refine lv_topl (fun x2 ex2 => ?_)
  refine lv_lstore (lv' := [(4, .long x2), (0, .long x), (2, .long m9)]) hx hb d_JM_floorMod_3 hl (by decide) rfl (fun ls hl => ?_)
  refine lv_lload_n hx hb d_JM_floorMod_5 rfl (lv_at hl 1 rfl) ?_
  refine lv_lload_n hx hb d_JM_floorMod_6 rfl (lv_at hl 2 rfl) ?_
  refine lv_lxor hx hb d_JM_floorMod_7 ?_
  refine lv_topl (fun x7 ex7 => ?_)
  refine lv_lconst (v := 0) hx hb d_JM_floorMod_8 (by decide) ?_
  refine W.lcmp hx hb d_JM_floorMod_9 ?_
  have t2 : x2.toInt = x.toInt.tmod m9.toInt := by rw [ex2, Jvm.Kit.i64_rem]
  refine lv_if_ge (tgt := 25) hx hb d_JM_floorMod_10 (by decide) (fun c10 => ?_) (fun c10 => ?_)
  · have h10 : 0 ≤ x.toInt := by
      have q := (lg_cmp_ge _ _).mp c10
      rw [Int64.le_iff_toInt_le, Int64.toInt_zero] at q
      rcases Int.lt_or_le x.toInt 0 with w | w
      · have := (xor_neg x m9 hm).mpr w
        rw [ex7] at q
        omega
      · exact w
    refine lv_lload hx hb d_JM_floorMod_25 (lv_at hl 0 rfl) ?_
    exact pr_lret hx hb hr hlocks (hfin _ (by rw [t2]; exact Int.tmod_eq_emod_of_nonneg h10)) d_JM_floorMod_27
  · have h10 : x.toInt < 0 := by
      have q : ¬ (0 : Int64) ≤ x7 := fun q => c10 ((lg_cmp_ge _ _).mpr q)
      rw [Int64.le_iff_toInt_le, Int64.toInt_zero, ex7] at q
      exact (xor_neg x m9 hm).mp (by omega)
    obtain ⟨k1, k2⟩ := fmod_neg h10 hm
    refine lv_lload hx hb d_JM_floorMod_13 (lv_at hl 0 rfl) ?_
    refine lv_lconst (v := 0) hx hb d_JM_floorMod_15 (by decide) ?_
    refine W.lcmp hx hb d_JM_floorMod_16 ?_
    refine lv_if_eq (tgt := 25) hx hb d_JM_floorMod_17 (by decide) (fun c17 => ?_) (fun c17 => ?_)
    · have h17 : x.toInt.tmod m9.toInt = 0 := by
        have q := (lg_cmp_eq _ _).mp c17
        rw [← t2, q]; rfl
      refine lv_lload hx hb d_JM_floorMod_25 (lv_at hl 0 rfl) ?_
      exact pr_lret hx hb hr hlocks (hfin _ (by rw [t2, h17, k1 h17])) d_JM_floorMod_27
    · have h17 : ¬ x.toInt.tmod m9.toInt = 0 := fun q => c17 ((lg_cmp_eq _ _).mpr (Int64.toInt_inj.mp (by rw [t2, q]; rfl)))
      refine lv_lload hx hb d_JM_floorMod_20 (lv_at hl 0 rfl) ?_
      refine lv_lload_n hx hb d_JM_floorMod_22 rfl (lv_at hl 2 rfl) ?_
      refine lv_ladd hx hb d_JM_floorMod_23 ?_
      refine lv_topl (fun x23 ex23 => ?_)
      have hml9 := Int64.toInt_lt m9
      obtain ⟨k3, k4, k5⟩ := k2 h17
      have t23 : x23.toInt = x.toInt % m9.toInt := by rw [ex23, Jvm.Kit.i64_add] <;> rw [t2] <;> omega
      exact pr_lret hx hb hr hlocks (hfin _ t23) d_JM_floorMod_24
  theorem bl_shift {V k : Nat} (h : 2 ^ k ≤ V) : bl V = bl (V / 2 ^ k) + k := by
    have hp := Nat.two_pow_pos k
    have e := bl_top (low := V % 2 ^ k) (T := V / 2 ^ k) (s := k) (Nat.mod_lt _ hp) (Nat.div_pos h hp)
    rw [Nat.mul_comm, Nat.mod_add_div] at e
    omega
  theorem bl_pos {v : Nat} (h : 0 < v) : 1 ≤ bl v := by rw [bl, if_neg (by omega)]; omega
  theorem bl_le {v k : Nat} (h : v < 2 ^ k) : bl v ≤ k := by
    unfold bl
    split
    · exact Nat.zero_le _
    · rename_i q
      exact (Nat.log2_lt q).mpr h
set_option maxHeartbeats 4000000 in
set_option maxRecDepth 100000 in
theorem c_nlz (l : Launch) (v : Int32) (hv : v ≠ 0) : Met l y_JI_numberOfLeadingZeros (zw y_JI_numberOfLeadingZeros b_JI_numberOfLeadingZeros 2 (some .int)) { frames := 0, cells := 0, slots := 0, locals := 0 } (va_Pc [.int v] (fun _ => True)) (prQ (.int (nI (32 - bl (wn v))))) 0 0 (fun _ => False) := by
  refine pr_ofW (by decide +kernel) (Nat.le_of_ble_eq_true rfl) (fun p e s m below meth c hx hb hr hml hown hts hlocks ls hl => ?_)
  have hl : lv_has ls 2 [(0, .int v)] := hl
  obtain ⟨V, eV⟩ : ∃ V, V = wn v := ⟨_, rfl⟩
  have hVw : V < 2 ^ 32 := by rw [eV]; exact wn_lt v
  have hV0 : 0 < V := by
    rw [eV]
    exact Nat.pos_of_ne_zero fun q => hv (wn_inj (q.trans wn_0.symm))
  refine lv_iload_n hx hb d_JI_numberOfLeadingZeros_0 rfl (lv_at hl 0 rfl) ?_
  refine lv_if_gt (tgt := 15) hx hb d_JI_numberOfLeadingZeros_1 (by decide) (fun c1 => ?_) (fun c1 => ?_)
  · have h1 : 0 < v.toInt := Int32.lt_iff_toInt_lt.mp c1
    have hVi : (V : Int) = v.toInt := by rw [eV]; exact wn_of_nonneg (by omega)
    have hVl31 : V < 2 ^ 31 := by have := i32_rng v; omega
    have hVl : bl V ≤ 31 := bl_le hVl31
    have hvV : v = nI V := by apply Int32.toInt_inj.mp; rw [nI_toInt (by omega)]; omega
    have E73 : ∀ (I n : Nat) (ls : Array Slot), 0 < I → I < 4 → bl V + n = bl I + 31 → n ≤ 31 → lv_has ls 2 [(0, .int (nI I)), (1, .int (nI n))] → W p l e ({ frames := 0, cells := 0, slots := 0, locals := 0 } : Room) s m ([.int v] : List Value).toArray below meth c s.heap [] 0 0 (MQ below (prQ (.int (nI (32 - bl (wn v))))) ([.int v] : List Value).toArray s 0 0 (fun _ => False)) (F0 m 73 ls []) := by
      intro I n ls h0 h1 h2 h3 hl
      refine lv_iload_n hx hb d_JI_numberOfLeadingZeros_73 rfl (lv_at hl 1 rfl) ?_
      refine lv_iload_n hx hb d_JI_numberOfLeadingZeros_74 rfl (lv_at hl 0 rfl) ?_
      refine lv_iconst (v := 1) hx hb d_JI_numberOfLeadingZeros_75 (by decide) ?_
      refine lv_iushr hx hb d_JI_numberOfLeadingZeros_76 rfl ?_
      refine lv_topi (fun x76 ex76 => ?_)
      refine lv_isub hx hb d_JI_numberOfLeadingZeros_77 ?_
      refine lv_topi (fun x77 ex77 => ?_)
      have e76 : x76 = nI (I / 2) := by rw [ex76]; exact pk_ushrN (by omega) 1 1 (by decide)
      have hI : bl I = I / 2 + 1 := by
        rcases (show I = 1 ∨ I = 2 ∨ I = 3 by omega) with q | q | q <;> rw [q] <;> decide
      have e77 : x77 = nI (32 - bl V) := by
        apply Int32.toInt_inj.mp
        rw [ex77, e76, nI_toInt (by omega), Jvm.Kit.i32_sub] <;> rw [nI_toInt (by omega), nI_toInt (by omega)] <;> omega
      exact pr_iret hx hb hr hlocks (by rw [← eV]; exact e77) d_JI_numberOfLeadingZeros_78
    have E61 : ∀ (I n : Nat) (ls : Array Slot), 0 < I → I < 16 → bl V + n = bl I + 31 → n ≤ 31 → lv_has ls 2 [(0, .int (nI I)), (1, .int (nI n))] → W p l e ({ frames := 0, cells := 0, slots := 0, locals := 0 } : Room) s m ([.int v] : List Value).toArray below meth c s.heap [] 0 0 (MQ below (prQ (.int (nI (32 - bl (wn v))))) ([.int v] : List Value).toArray s 0 0 (fun _ => False)) (F0 m 61 ls []) := by
      intro I n ls h0 h1 h2 h3 hl
      refine lv_iload_n hx hb d_JI_numberOfLeadingZeros_61 rfl (lv_at hl 0 rfl) ?_
      refine lv_iconst (v := 4) hx hb d_JI_numberOfLeadingZeros_62 (by decide) ?_
      refine lv_icmp_lt (tgt := 73) hx hb d_JI_numberOfLeadingZeros_63 (by decide) (fun c63 => ?_) (fun c63 => ?_)
      · have h : I < 4 := by
          have q := Int32.lt_iff_toInt_lt.mp c63
          rw [nI_toInt (by omega), show (4 : Int32).toInt = 4 from rfl] at q
          omega
        exact E73 I n ls h0 h h2 h3 hl
      · have h : 4 ≤ I := by
          rcases Nat.lt_or_ge I 4 with q | q
          · exact absurd (Int32.lt_iff_toInt_lt.mpr (by rw [nI_toInt (by omega), show (4 : Int32).toInt = 4 from rfl]; omega)) c63
          · exact q
        obtain ⟨x66, ex66⟩ : ∃ y : Int32, y = (nI n) + Int32.ofInt (-2) := ⟨_, rfl⟩
        refine lv_iinc (v := x66) (lv' := [(1, .int x66), (0, .int (nI I))]) hx hb d_JI_numberOfLeadingZeros_66 hl (k := 1) rfl (by rw [ex66]) (by decide) rfl (fun ls hl => ?_)
        refine lv_iload_n hx hb d_JI_numberOfLeadingZeros_69 rfl (lv_at hl 1 rfl) ?_
        refine lv_iconst (v := 2) hx hb d_JI_numberOfLeadingZeros_70 (by decide) ?_
        refine lv_iushr hx hb d_JI_numberOfLeadingZeros_71 rfl ?_
        refine lv_topi (fun x71 ex71 => ?_)
        refine lv_istore_n (lv' := [(0, .int x71), (1, .int x66)]) hx hb d_JI_numberOfLeadingZeros_72 rfl hl (by decide) rfl (fun ls hl => ?_)
        have hs := bl_shift (V := I) (k := 2) h
        have hp : 0 < I / 2 ^ 2 := Nat.div_pos h (by decide)
        have hq : bl (I / 2 ^ 2) + 2 = bl I := hs.symm
        have hVp := bl_pos hV0
        have hn : 2 ≤ n := by
          have := hVl
          have := bl_pos hp
          omega
        have e1 : x66 = nI (n - 2) := by
          apply Int32.toInt_inj.mp
          rw [ex66, nI_toInt (by omega), Jvm.Kit.i32_add] <;> rw [nI_toInt (by omega), show (Int32.ofInt (-2)).toInt = -2 from rfl] <;> omega
        have e2 : x71 = nI (I / 2 ^ 2) := by rw [ex71]; exact pk_ushrN (by omega) 2 2 (by decide)
        rw [e1, e2] at hl
        exact E73 (I / 2 ^ 2) (n - 2) ls hp (by omega) (by omega) (by omega) (lv_sub hl [0, 1] rfl)
    have E48 : ∀ (I n : Nat) (ls : Array Slot), 0 < I → I < 256 → bl V + n = bl I + 31 → n ≤ 31 → lv_has ls 2 [(0, .int (nI I)), (1, .int (nI n))] → W p l e ({ frames := 0, cells := 0, slots := 0, locals := 0 } : Room) s m ([.int v] : List Value).toArray below meth c s.heap [] 0 0 (MQ below (prQ (.int (nI (32 - bl (wn v))))) ([.int v] : List Value).toArray s 0 0 (fun _ => False)) (F0 m 48 ls []) := by
      intro I n ls h0 h1 h2 h3 hl
      refine lv_iload_n hx hb d_JI_numberOfLeadingZeros_48 rfl (lv_at hl 0 rfl) ?_
      refine lv_bipush (v := 16) hx hb d_JI_numberOfLeadingZeros_49 (by decide) ?_
      refine lv_icmp_lt (tgt := 61) hx hb d_JI_numberOfLeadingZeros_51 (by decide) (fun c51 => ?_) (fun c51 => ?_)
      · have h : I < 16 := by
          have q := Int32.lt_iff_toInt_lt.mp c51
          rw [nI_toInt (by omega), show (16 : Int32).toInt = 16 from rfl] at q
          omega
        exact E61 I n ls h0 h h2 h3 hl
      · have h : 16 ≤ I := by
          rcases Nat.lt_or_ge I 16 with q | q
          · exact absurd (Int32.lt_iff_toInt_lt.mpr (by rw [nI_toInt (by omega), show (16 : Int32).toInt = 16 from rfl]; omega)) c51
          · exact q
        obtain ⟨x54, ex54⟩ : ∃ y : Int32, y = (nI n) + Int32.ofInt (-4) := ⟨_, rfl⟩
        refine lv_iinc (v := x54) (lv' := [(1, .int x54), (0, .int (nI I))]) hx hb d_JI_numberOfLeadingZeros_54 hl (k := 1) rfl (by rw [ex54]) (by decide) rfl (fun ls hl => ?_)
        refine lv_iload_n hx hb d_JI_numberOfLeadingZeros_57 rfl (lv_at hl 1 rfl) ?_
        refine lv_iconst (v := 4) hx hb d_JI_numberOfLeadingZeros_58 (by decide) ?_
        refine lv_iushr hx hb d_JI_numberOfLeadingZeros_59 rfl ?_
        refine lv_topi (fun x59 ex59 => ?_)
        refine lv_istore_n (lv' := [(0, .int x59), (1, .int x54)]) hx hb d_JI_numberOfLeadingZeros_60 rfl hl (by decide) rfl (fun ls hl => ?_)
        have hs := bl_shift (V := I) (k := 4) h
        have hp : 0 < I / 2 ^ 4 := Nat.div_pos h (by decide)
        have hq : bl (I / 2 ^ 4) + 4 = bl I := hs.symm
        have hVp := bl_pos hV0
        have hn : 4 ≤ n := by
          have := hVl
          have := bl_pos hp
          omega
        have e1 : x54 = nI (n - 4) := by
          apply Int32.toInt_inj.mp
          rw [ex54, nI_toInt (by omega), Jvm.Kit.i32_add] <;> rw [nI_toInt (by omega), show (Int32.ofInt (-4)).toInt = -4 from rfl] <;> omega
        have e2 : x59 = nI (I / 2 ^ 4) := by rw [ex59]; exact pk_ushrN (by omega) 4 4 (by decide)
        rw [e1, e2] at hl
        exact E61 (I / 2 ^ 4) (n - 4) ls hp (by omega) (by omega) (by omega) (lv_sub hl [0, 1] rfl)
    have E33 : ∀ (I n : Nat) (ls : Array Slot), 0 < I → I < 65536 → bl V + n = bl I + 31 → n ≤ 31 → lv_has ls 2 [(0, .int (nI I)), (1, .int (nI n))] → W p l e ({ frames := 0, cells := 0, slots := 0, locals := 0 } : Room) s m ([.int v] : List Value).toArray below meth c s.heap [] 0 0 (MQ below (prQ (.int (nI (32 - bl (wn v))))) ([.int v] : List Value).toArray s 0 0 (fun _ => False)) (F0 m 33 ls []) := by
      intro I n ls h0 h1 h2 h3 hl
      refine lv_iload_n hx hb d_JI_numberOfLeadingZeros_33 rfl (lv_at hl 0 rfl) ?_
      refine lv_sipush (v := 256) hx hb d_JI_numberOfLeadingZeros_34 (by decide) ?_
      refine lv_icmp_lt (tgt := 48) hx hb d_JI_numberOfLeadingZeros_37 (by decide) (fun c37 => ?_) (fun c37 => ?_)
      · have h : I < 256 := by
          have q := Int32.lt_iff_toInt_lt.mp c37
          rw [nI_toInt (by omega), show (256 : Int32).toInt = 256 from rfl] at q
          omega
        exact E48 I n ls h0 h h2 h3 hl
      · have h : 256 ≤ I := by
          rcases Nat.lt_or_ge I 256 with q | q
          · exact absurd (Int32.lt_iff_toInt_lt.mpr (by rw [nI_toInt (by omega), show (256 : Int32).toInt = 256 from rfl]; omega)) c37
          · exact q
        obtain ⟨x40, ex40⟩ : ∃ y : Int32, y = (nI n) + Int32.ofInt (-8) := ⟨_, rfl⟩
        refine lv_iinc (v := x40) (lv' := [(1, .int x40), (0, .int (nI I))]) hx hb d_JI_numberOfLeadingZeros_40 hl (k := 1) rfl (by rw [ex40]) (by decide) rfl (fun ls hl => ?_)
        refine lv_iload_n hx hb d_JI_numberOfLeadingZeros_43 rfl (lv_at hl 1 rfl) ?_
        refine lv_bipush (v := 8) hx hb d_JI_numberOfLeadingZeros_44 (by decide) ?_
        refine lv_iushr hx hb d_JI_numberOfLeadingZeros_46 rfl ?_
        refine lv_topi (fun x46 ex46 => ?_)
        refine lv_istore_n (lv' := [(0, .int x46), (1, .int x40)]) hx hb d_JI_numberOfLeadingZeros_47 rfl hl (by decide) rfl (fun ls hl => ?_)
        have hs := bl_shift (V := I) (k := 8) h
        have hp : 0 < I / 2 ^ 8 := Nat.div_pos h (by decide)
        have hq : bl (I / 2 ^ 8) + 8 = bl I := hs.symm
        have hVp := bl_pos hV0
        have hn : 8 ≤ n := by
          have := hVl
          have := bl_pos hp
          omega
        have e1 : x40 = nI (n - 8) := by
          apply Int32.toInt_inj.mp
          rw [ex40, nI_toInt (by omega), Jvm.Kit.i32_add] <;> rw [nI_toInt (by omega), show (Int32.ofInt (-8)).toInt = -8 from rfl] <;> omega
        have e2 : x46 = nI (I / 2 ^ 8) := by rw [ex46]; exact pk_ushrN (by omega) 8 8 (by decide)
        rw [e1, e2] at hl
        exact E48 (I / 2 ^ 8) (n - 8) ls hp (by omega) (by omega) (by omega) (lv_sub hl [0, 1] rfl)
    have E18 : ∀ (I n : Nat) (ls : Array Slot), 0 < I → I < 2147483648 → bl V + n = bl I + 31 → n ≤ 31 → lv_has ls 2 [(0, .int (nI I)), (1, .int (nI n))] → W p l e ({ frames := 0, cells := 0, slots := 0, locals := 0 } : Room) s m ([.int v] : List Value).toArray below meth c s.heap [] 0 0 (MQ below (prQ (.int (nI (32 - bl (wn v))))) ([.int v] : List Value).toArray s 0 0 (fun _ => False)) (F0 m 18 ls []) := by
      intro I n ls h0 h1 h2 h3 hl
      refine lv_iload_n hx hb d_JI_numberOfLeadingZeros_18 rfl (lv_at hl 0 rfl) ?_
      refine lv_ldcw (v := 65536) hx hb hown (hts _ k_JI_264) d_JI_numberOfLeadingZeros_19 ?_
      refine lv_icmp_lt (tgt := 33) hx hb d_JI_numberOfLeadingZeros_22 (by decide) (fun c22 => ?_) (fun c22 => ?_)
      · have h : I < 65536 := by
          have q := Int32.lt_iff_toInt_lt.mp c22
          rw [nI_toInt (by omega), show (65536 : Int32).toInt = 65536 from rfl] at q
          omega
        exact E33 I n ls h0 h h2 h3 hl
      · have h : 65536 ≤ I := by
          rcases Nat.lt_or_ge I 65536 with q | q
          · exact absurd (Int32.lt_iff_toInt_lt.mpr (by rw [nI_toInt (by omega), show (65536 : Int32).toInt = 65536 from rfl]; omega)) c22
          · exact q
        obtain ⟨x25, ex25⟩ : ∃ y : Int32, y = (nI n) + Int32.ofInt (-16) := ⟨_, rfl⟩
        refine lv_iinc (v := x25) (lv' := [(1, .int x25), (0, .int (nI I))]) hx hb d_JI_numberOfLeadingZeros_25 hl (k := 1) rfl (by rw [ex25]) (by decide) rfl (fun ls hl => ?_)
        refine lv_iload_n hx hb d_JI_numberOfLeadingZeros_28 rfl (lv_at hl 1 rfl) ?_
        refine lv_bipush (v := 16) hx hb d_JI_numberOfLeadingZeros_29 (by decide) ?_
        refine lv_iushr hx hb d_JI_numberOfLeadingZeros_31 rfl ?_
        refine lv_topi (fun x31 ex31 => ?_)
        refine lv_istore_n (lv' := [(0, .int x31), (1, .int x25)]) hx hb d_JI_numberOfLeadingZeros_32 rfl hl (by decide) rfl (fun ls hl => ?_)
        have hs := bl_shift (V := I) (k := 16) h
        have hp : 0 < I / 2 ^ 16 := Nat.div_pos h (by decide)
        have hq : bl (I / 2 ^ 16) + 16 = bl I := hs.symm
        have hVp := bl_pos hV0
        have hn : 16 ≤ n := by
          have := hVl
          have := bl_pos hp
          omega
        have e1 : x25 = nI (n - 16) := by
          apply Int32.toInt_inj.mp
          rw [ex25, nI_toInt (by omega), Jvm.Kit.i32_add] <;> rw [nI_toInt (by omega), show (Int32.ofInt (-16)).toInt = -16 from rfl] <;> omega
        have e2 : x31 = nI (I / 2 ^ 16) := by rw [ex31]; exact pk_ushrN (by omega) 16 16 (by decide)
        rw [e1, e2] at hl
        exact E33 (I / 2 ^ 16) (n - 16) ls hp (by omega) (by omega) (by omega) (lv_sub hl [0, 1] rfl)
    refine lv_bipush (v := 31) hx hb d_JI_numberOfLeadingZeros_15 (by decide) ?_
    refine lv_istore_n (lv' := [(1, .int 31), (0, .int v)]) hx hb d_JI_numberOfLeadingZeros_17 rfl hl (by decide) rfl (fun ls hl => ?_)
    rw [hvV] at hl
    exact E18 V 31 ls hV0 hVl31 rfl (Nat.le_refl _) (lv_sub hl [1, 0] rfl)
  · have h1 : v.toInt < 0 := by
      have q : ¬ 0 < v.toInt := fun q => c1 (Int32.lt_iff_toInt_lt.mpr q)
      have q2 : v.toInt ≠ 0 := fun w => hv (Int32.toInt_inj.mp w)
      omega
    refine lv_iload_n hx hb d_JI_numberOfLeadingZeros_4 rfl (lv_at hl 0 rfl) ?_
    refine lv_if_ne (tgt := 13) hx hb d_JI_numberOfLeadingZeros_5 (by decide) (fun c5 => ?_) (fun c5 => ?_)
    · refine lv_iconst (v := 0) hx hb d_JI_numberOfLeadingZeros_13 (by decide) ?_
      have hb9 : bl V = 32 := by
        have := wn_int v
        rw [← eV] at this
        have hV2 : 2 ^ 31 ≤ V := by
          split at this
          · omega
          · omega
        rw [bl_shift hV2, show V / 2 ^ 31 = 1 by omega]
        decide
      exact pr_iret hx hb hr hlocks (by rw [← eV, hb9]; rfl) d_JI_numberOfLeadingZeros_14
    · exact absurd c5 hv
