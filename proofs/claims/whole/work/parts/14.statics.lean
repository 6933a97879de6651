/-! UnitFinder's static methods -/
/-- the greatest number whose square isn't above d, bit by bit -/
def rtL (d : Int) : Nat → Nat → Nat
  | 0, r => r
  | k + 1, r => rtL d k (if ((r + 2 ^ k) * (r + 2 ^ k) : Nat) ≤ d then r + 2 ^ k else r)
def rt (d : Int) : Nat := rtL d 11 0
theorem rtL_spec {d : Int} (hd : 0 ≤ d) : ∀ (k r : Nat), ((r * r : Nat) : Int) ≤ d → d < (((r + 2 ^ k) * (r + 2 ^ k) : Nat) : Int) → ((rtL d k r * rtL d k r : Nat) : Int) ≤ d ∧ d < (((rtL d k r + 1) * (rtL d k r + 1) : Nat) : Int) := by
  intro k
  induction k with
  | zero => intro r h1 h2; exact ⟨h1, h2⟩
  | succ k ih =>
    intro r h1 h2
    rw [rtL]
    split
    · rename_i h
      refine ih _ h ?_
      rw [show r + 2 ^ k + 2 ^ k = r + 2 ^ (k + 1) by rw [Nat.pow_succ]; omega]
      exact h2
    · rename_i h
      exact ih r h1 (by omega)
theorem rt_spec {d : Int} (h0 : 0 ≤ d) (h1 : d ≤ 1048576) : ((rt d * rt d : Nat) : Int) ≤ d ∧ d < (((rt d + 1) * (rt d + 1) : Nat) : Int) := rtL_spec h0 11 0 (by simpa using h0) (by simp; omega)
theorem rtL_neg {d : Int} (h : d < 0) : ∀ (k r : Nat), rtL d k r = r := by
  intro k
  induction k with
  | zero => intro r; rfl
  | succ k ih => intro r; rw [rtL, if_neg (by omega)]; exact ih r
theorem rt_neg {d : Int} (h : d < 0) : rt d = 0 := rtL_neg h 11 0
theorem rtL_le (d : Int) : ∀ (k r : Nat), rtL d k r < r + 2 ^ k := by
  intro k
  induction k with
  | zero => intro r; show r < r + 1; omega
  | succ k ih =>
    intro r
    rw [rtL]
    have h2 : 2 ^ (k + 1) = 2 ^ k + 2 ^ k := by rw [Nat.pow_succ]; omega
    split
    · have := ih (r + 2 ^ k); omega
    · have := ih r; have := Nat.two_pow_pos k; omega
set_option maxHeartbeats 4000000 in
set_option maxRecDepth 100000 in
theorem c_rootOf (l : Launch) (d : Int32) : Met l y_U_rootOf (zw y_U_rootOf b_U_rootOf 4 (some .int)) { frames := 0, cells := 0, slots := 0, locals := 0 } (va_Pc [.int d] (fun _ => True)) (prQ (.int (nI (rt d.toInt)))) 0 0 (fun _ => False) := by
  refine pr_ofW (by decide) (Nat.le_of_ble_eq_true rfl) (fun p e s m below meth c hx hb hr hml hown hts hlocks ls hl => ?_)
  have hl : lv_has ls 4 [(0, .int d)] := hl
  have K : ∀ (k r : Nat) (x3 : List (Nat × Value)) (ls : Array Slot), k ≤ 11 → r + 2 ^ k ≤ 2048 → rtL d.toInt k r = rt d.toInt → lv_has ls 4 [(0, .int d), (1, .int (nI r)), (2, .int (nI (2 ^ k / 2)))] → W p l e ({ frames := 0, cells := 0, slots := 0, locals := 0 } : Room) s m ([.int d] : List Value).toArray below meth c s.heap [] 0 0 (MQ below (prQ (.int (nI (rt d.toInt)))) ([.int d] : List Value).toArray s 0 0 (fun _ => False)) (F0 m 6 ls []) := by
    intro k
    induction k with
    | zero =>
      intro r _ ls hk hr2 hv hl
      refine lv_iload_n hx hb d_U_rootOf_6 rfl (lv_at hl 2 rfl) ?_
      refine lv_if_le (tgt := 30) hx hb d_U_rootOf_7 (by decide) (fun c7 => ?_) (fun c7 => ?_)
      · refine lv_iload_n hx hb d_U_rootOf_30 rfl (lv_at hl 1 rfl) ?_
        exact pr_iret hx hb hr hlocks (congrArg nI hv) d_U_rootOf_31
      · exact absurd (by decide) c7
    | succ k ih =>
      intro r _ ls hk hr2 hv hl
      have hp : 2 ^ (k + 1) / 2 = 2 ^ k := by rw [Nat.pow_succ]; omega
      have hp1 : 2 ^ (k + 1) = 2 ^ k + 2 ^ k := by rw [Nat.pow_succ]; omega
      have hp0 : 0 < 2 ^ k := Nat.two_pow_pos k
      rw [hp] at hl
      refine lv_iload_n hx hb d_U_rootOf_6 rfl (lv_at hl 2 rfl) ?_
      refine lv_if_le (tgt := 30) hx hb d_U_rootOf_7 (by decide) (fun c7 => ?_) (fun c7 => ?_)
      · exact absurd c7 (nI_nle hp0 (by omega))
      · refine lv_iload_n hx hb d_U_rootOf_10 rfl (lv_at hl 1 rfl) ?_
        refine lv_iload_n hx hb d_U_rootOf_11 rfl (lv_at hl 2 rfl) ?_
        refine lv_iadd hx hb d_U_rootOf_12 ?_
        refine lv_topi (fun x12 ex12 => ?_)
        refine lv_istore_n (lv' := [(3, .int x12), (0, .int d), (1, .int (nI r)), (2, .int (nI (2 ^ k)))]) hx hb d_U_rootOf_13 rfl hl (by decide) rfl (fun ls hl => ?_)
        refine lv_iload_n hx hb d_U_rootOf_14 rfl (lv_at hl 0 rfl) ?_
        refine lv_iload_n hx hb d_U_rootOf_15 rfl (lv_at hl 0 rfl) ?_
        refine lv_imul hx hb d_U_rootOf_16 ?_
        refine lv_topi (fun x16 ex16 => ?_)
        refine lv_iload_n hx hb d_U_rootOf_17 rfl (lv_at hl 1 rfl) ?_
        have e12 : x12 = nI (r + 2 ^ k) := by rw [ex12, nI_add]
        have hm : (r + 2 ^ k) * (r + 2 ^ k) ≤ 2048 * 2048 := Nat.mul_le_mul (by omega) (by omega)
        have e16 : x16.toInt = (((r + 2 ^ k) * (r + 2 ^ k) : Nat) : Int) := by rw [ex16, e12, pk_mul, nI_toInt (by omega)]
        refine lv_icmp_gt (tgt := 23) hx hb d_U_rootOf_18 (by decide) (fun c18 => ?_) (fun c18 => ?_)
        · have h18 : ¬ ((((r + 2 ^ k) * (r + 2 ^ k) : Nat) : Int) ≤ d.toInt) := by
            rw [Int32.lt_iff_toInt_lt, e16] at c18
            omega
          rw [rtL, if_neg h18] at hv
          refine lv_iload_n hx hb d_U_rootOf_23 rfl (lv_at hl 3 rfl) ?_
          refine lv_iconst (v := 1) hx hb d_U_rootOf_24 (by decide) ?_
          refine lv_ishr hx hb d_U_rootOf_25 ?_
          refine lv_topi (fun x25 ex25 => ?_)
          refine lv_istore_n (lv' := [(2, .int x25), (3, .int x12), (0, .int d), (1, .int (nI r))]) hx hb d_U_rootOf_26 rfl hl (by decide) rfl (fun ls hl => ?_)
          refine lv_goto (tgt := 6) hx hb d_U_rootOf_27 (by decide) ?_
          have e25 : x25 = nI (2 ^ k / 2) := by rw [ex25]; exact pk_shrN (by omega) 1 1 (by decide)
          rw [e25] at hl
          exact ih r [] ls (by omega) (by omega) hv (lv_sub hl [2, 3, 0] rfl)
        · have h18 : ((((r + 2 ^ k) * (r + 2 ^ k) : Nat) : Int) ≤ d.toInt) := by
            rw [Int32.lt_iff_toInt_lt, e16] at c18
            omega
          rw [rtL, if_pos h18] at hv
          refine lv_iload_n hx hb d_U_rootOf_21 rfl (lv_at hl 0 rfl) ?_
          refine lv_istore_n (lv' := [(1, .int x12), (3, .int x12), (0, .int d), (2, .int (nI (2 ^ k)))]) hx hb d_U_rootOf_22 rfl hl (by decide) rfl (fun ls hl => ?_)
          refine lv_iload_n hx hb d_U_rootOf_23 rfl (lv_at hl 3 rfl) ?_
          refine lv_iconst (v := 1) hx hb d_U_rootOf_24 (by decide) ?_
          refine lv_ishr hx hb d_U_rootOf_25 ?_
          refine lv_topi (fun x25 ex25 => ?_)
          refine lv_istore_n (lv' := [(2, .int x25), (1, .int x12), (3, .int x12), (0, .int d)]) hx hb d_U_rootOf_26 rfl hl (by decide) rfl (fun ls hl => ?_)
          refine lv_goto (tgt := 6) hx hb d_U_rootOf_27 (by decide) ?_
          have e25 : x25 = nI (2 ^ k / 2) := by rw [ex25]; exact pk_shrN (by omega) 1 1 (by decide)
          rw [e25, e12] at hl
          exact ih (r + 2 ^ k) [] ls (by omega) (by omega) hv (lv_sub hl [3, 1, 0] rfl)
  refine lv_iconst (v := 0) hx hb d_U_rootOf_0 (by decide) ?_
  refine lv_istore_n (lv' := [(1, .int 0), (0, .int d)]) hx hb d_U_rootOf_1 rfl hl (by decide) rfl (fun ls hl => ?_)
  refine lv_sipush (v := 1024) hx hb d_U_rootOf_2 (by decide) ?_
  refine lv_istore_n (lv' := [(2, .int 1024), (1, .int 0), (0, .int d)]) hx hb d_U_rootOf_5 rfl hl (by decide) rfl (fun ls hl => ?_)
  exact K 11 0 [] ls (by decide) (by decide) rfl (lv_sub hl [2, 1, 0] rfl)
set_option maxHeartbeats 4000000 in
set_option maxRecDepth 100000 in
theorem c_isCoefficient (l : Launch) (x : Int32) : Met l y_U_isCoefficient (zw y_U_isCoefficient b_U_isCoefficient 1 (some .boolean)) { frames := 0, cells := 0, slots := 0, locals := 0 } (va_Pc [.int x] (fun _ => True)) (prQ (.int (if -1073741824 ≤ x.toInt ∧ x.toInt ≤ 1073741824 then 1 else 0))) 0 0 (fun _ => False) := by
  refine pr_ofW (by decide) (Nat.le_of_ble_eq_true rfl) (fun p e s m below meth c hx hb hr hml hown hts hlocks ls hl => ?_)
  have hl : lv_has ls 1 [(0, .int x)] := hl
  have h01 : ((if -1073741824 ≤ x.toInt ∧ x.toInt ≤ 1073741824 then 1 else 0 : Int32) = 0 ∨ (if -1073741824 ≤ x.toInt ∧ x.toInt ≤ 1073741824 then 1 else 0 : Int32) = 1) := by split; exact Or.inr rfl; exact Or.inl rfl
  refine lv_iload_n hx hb d_U_isCoefficient_0 rfl (lv_at hl 0 rfl) ?_
  refine lv_ldc (v := (-1073741824)) hx hb hown (hts _ k_U_131) d_U_isCoefficient_1 ?_
  refine lv_icmp_lt (tgt := 16) hx hb d_U_isCoefficient_3 (by decide) (fun c3 => ?_) (fun c3 => ?_)
  · have h3 : x.toInt < -1073741824 := Int32.lt_iff_toInt_lt.mp c3
    refine lv_iconst (v := 0) hx hb d_U_isCoefficient_16 (by decide) ?_
    exact pr_zret hx hb hr hlocks h01 (by rw [if_neg]; omega) d_U_isCoefficient_17
  · have h3 : ¬ x.toInt < -1073741824 := fun q => c3 (Int32.lt_iff_toInt_lt.mpr q)
    refine lv_iload_n hx hb d_U_isCoefficient_6 rfl (lv_at hl 0 rfl) ?_
    refine lv_ldc (v := 1073741824) hx hb hown (hts _ k_U_132) d_U_isCoefficient_7 ?_
    refine lv_icmp_gt (tgt := 16) hx hb d_U_isCoefficient_9 (by decide) (fun c9 => ?_) (fun c9 => ?_)
    · have h9 : 1073741824 < x.toInt := Int32.lt_iff_toInt_lt.mp c9
      refine lv_iconst (v := 0) hx hb d_U_isCoefficient_16 (by decide) ?_
      exact pr_zret hx hb hr hlocks h01 (by rw [if_neg]; omega) d_U_isCoefficient_17
    · have h9 : ¬ 1073741824 < x.toInt := fun q => c9 (Int32.lt_iff_toInt_lt.mpr q)
      refine lv_iconst (v := 1) hx hb d_U_isCoefficient_12 (by decide) ?_
      refine lv_goto (tgt := 17) hx hb d_U_isCoefficient_13 (by decide) ?_
      exact pr_zret hx hb hr hlocks h01 (by rw [if_pos]; omega) d_U_isCoefficient_17
  /-- D can be taken -/
  def tk (d : Int) : Prop := -1048576 ≤ d ∧ d ≤ 1048576 ∧ d % 4 ≤ 1 ∧ ((rt d * rt d : Nat) : Int) ≠ d
  def tkI (d : Int) : Int32 := if -1048576 ≤ d ∧ d ≤ 1048576 ∧ d % 4 ≤ 1 ∧ ((rt d * rt d : Nat) : Int) ≠ d then 1 else 0
  theorem tkI_01 (d : Int) : tkI d = 0 ∨ tkI d = 1 := by unfold tkI; split; exact Or.inr rfl; exact Or.inl rfl
  theorem tkI_1 {d : Int} (h : tk d) : tkI d = 1 := if_pos h
  theorem tkI_0 {d : Int} (h : ¬ tk d) : tkI d = 0 := if_neg h
  theorem tkI_iff {d : Int} : tkI d = 1 ↔ tk d := ⟨fun h => Classical.byContradiction fun q => by rw [tkI_0 q] at h; exact absurd h (by decide), tkI_1⟩
set_option maxHeartbeats 4000000 in
set_option maxRecDepth 100000 in
theorem c_canBeTaken (l : Launch) (d : Int32) : Met l y_U_canBeTaken (zw y_U_canBeTaken b_U_canBeTaken 2 (some .boolean)) { frames := 1, cells := 0, slots := 0, locals := 23 } (va_Pc [.int d] (fun _ => True)) (prQ (.int (tkI d.toInt))) 0 0 (fun _ => False) := by
  refine pr_ofW (by decide) (Nat.le_of_ble_eq_true rfl) (fun p e s m below meth c hx hb hr hml hown hts hlocks ls hl => ?_)
  have hl : lv_has ls 2 [(0, .int d)] := hl
  have h01 := tkI_01 d.toInt
  have E19 : ∀ (ls : Array Slot), ¬ tk d.toInt → lv_has ls 2 [(0, .int d)] → W p l e ({ frames := 1, cells := 0, slots := 0, locals := 23 } : Room) s m ([.int d] : List Value).toArray below meth c s.heap [] 0 0 (MQ below (prQ (.int (tkI d.toInt))) ([.int d] : List Value).toArray s 0 0 (fun _ => False)) (F0 m 19 ls []) := by
    intro ls hn hl
    refine lv_iconst (v := 0) hx hb d_U_canBeTaken_19 (by decide) ?_
    exact pr_zret hx hb hr hlocks h01 (tkI_0 hn).symm d_U_canBeTaken_20
  refine lv_iload_n hx hb d_U_canBeTaken_0 rfl (lv_at hl 0 rfl) ?_
  refine lv_ldc (v := (-1048576)) hx hb hown (hts _ k_U_126) d_U_canBeTaken_1 ?_
  refine lv_icmp_lt (tgt := 19) hx hb d_U_canBeTaken_3 (by decide) (fun c3 => ?_) (fun c3 => ?_)
  · exact E19 ls (fun q => absurd q.1 (by have := Int32.lt_iff_toInt_lt.mp c3; rw [show (-1048576 : Int32).toInt = -1048576 from rfl] at this; omega)) hl
  · have h3 : -1048576 ≤ d.toInt := by
      have : ¬ d.toInt < (-1048576 : Int32).toInt := fun q => c3 (Int32.lt_iff_toInt_lt.mpr q)
      rw [show (-1048576 : Int32).toInt = -1048576 from rfl] at this
      omega
    refine lv_iload_n hx hb d_U_canBeTaken_6 rfl (lv_at hl 0 rfl) ?_
    refine lv_ldc (v := 1048576) hx hb hown (hts _ k_U_127) d_U_canBeTaken_7 ?_
    refine lv_icmp_gt (tgt := 19) hx hb d_U_canBeTaken_9 (by decide) (fun c9 => ?_) (fun c9 => ?_)
    · exact E19 ls (fun q => absurd q.2.1 (by have := Int32.lt_iff_toInt_lt.mp c9; rw [show (1048576 : Int32).toInt = 1048576 from rfl] at this; omega)) hl
    · have h9 : d.toInt ≤ 1048576 := by
        have : ¬ (1048576 : Int32).toInt < d.toInt := fun q => c9 (Int32.lt_iff_toInt_lt.mpr q)
        rw [show (1048576 : Int32).toInt = 1048576 from rfl] at this
        omega
      refine lv_iload_n hx hb d_U_canBeTaken_12 rfl (lv_at hl 0 rfl) ?_
      refine lv_iconst (v := 3) hx hb d_U_canBeTaken_13 (by decide) ?_
      refine lv_iand hx hb d_U_canBeTaken_14 ?_
      refine lv_topi (fun x14 ex14 => ?_)
      refine lv_iconst (v := 1) hx hb d_U_canBeTaken_15 (by decide) ?_
      have e14 : x14.toInt = d.toInt % 4 := by rw [ex14]; exact Jvm.Kit.i32_mask d 3 (k := 2) (by decide) (by decide)
      refine lv_icmp_le (tgt := 21) hx hb d_U_canBeTaken_16 (by decide) (fun c16 => ?_) (fun c16 => ?_)
      · have h16 : d.toInt % 4 ≤ 1 := by
          rw [Int32.le_iff_toInt_le, e14] at c16
          exact c16
        refine lv_iload_n hx hb d_U_canBeTaken_21 rfl (lv_at hl 0 rfl) ?_
        refine pr_call (As := [.int d]) (rest := []) hx hb hml hown hts (c_rootOf l d) (w_U_rootOf_cw hts k_U_128 rfl rfl ⟨Nat.le_of_ble_eq_true rfl, Nat.le_of_ble_eq_true rfl⟩) rfl hl.1 rfl (lv_room (Nat.le_of_ble_eq_true rfl)) d_U_canBeTaken_22 ⟨Nat.zero_le _, Nat.zero_le _⟩ ?_
        refine lv_topi (fun x22 ex22 => ?_)
        refine lv_istore_n (lv' := [(1, .int x22), (0, .int d)]) hx hb d_U_canBeTaken_25 rfl hl (by decide) rfl (fun ls hl => ?_)
        refine lv_iload_n hx hb d_U_canBeTaken_26 rfl (lv_at hl 0 rfl) ?_
        refine lv_iload_n hx hb d_U_canBeTaken_27 rfl (lv_at hl 0 rfl) ?_
        refine lv_imul hx hb d_U_canBeTaken_28 ?_
        refine lv_topi (fun x28 ex28 => ?_)
        refine lv_iload_n hx hb d_U_canBeTaken_29 rfl (lv_at hl 1 rfl) ?_
        have hr1 : rt d.toInt < 2048 := rtL_le d.toInt 11 0
        have e28 : x28.toInt = ((rt d.toInt * rt d.toInt : Nat) : Int) := by
          rw [ex28, ex22, pk_mul, nI_toInt]
          exact Nat.lt_of_le_of_lt (Nat.mul_le_mul (Nat.le_of_lt hr1) (Nat.le_of_lt hr1)) (by decide)
        refine lv_icmp_eq (tgt := 37) hx hb d_U_canBeTaken_30 (by decide) (fun c30 => ?_) (fun c30 => ?_)
        · refine lv_iconst (v := 0) hx hb d_U_canBeTaken_37 (by decide) ?_
          exact pr_zret hx hb hr hlocks h01 (tkI_0 (fun q => q.2.2.2 (by rw [← e28, c30]))).symm d_U_canBeTaken_38
        · refine lv_iconst (v := 1) hx hb d_U_canBeTaken_33 (by decide) ?_
          refine lv_goto (tgt := 38) hx hb d_U_canBeTaken_34 (by decide) ?_
          exact pr_zret hx hb hr hlocks h01 (tkI_1 ⟨h3, h9, h16, fun q => c30 (Int32.toInt_inj.mp (by rw [e28, q]))⟩).symm d_U_canBeTaken_38
      · exact E19 ls (fun q => c16 (by rw [Int32.le_iff_toInt_le, e14]; exact q.2.2.1)) hl
  /-- Euclid, two steps halve -/
  theorem eu_half {g s : Nat} (h : s ≠ 0) (h2 : g % s ≠ 0) : 2 * (s % (g % s)) < s := by
    have h1 : g % s < s := Nat.mod_lt _ (by omega)
    have h3 : s % (g % s) < g % s := Nat.mod_lt _ (by omega)
    have h4 : s % (g % s) ≤ s - g % s := by
      have e := Nat.mod_eq_sub_mod (a := s) (b := g % s) (by omega)
      rw [e]
      exact Nat.mod_le _ _
    omega
set_option maxHeartbeats 4000000 in
set_option maxRecDepth 100000 in
theorem c_commonDivisor (l : Launch) {x y : Int32} (hx1 : x.toInt.natAbs ≤ 1073741824) (hy1 : y.toInt.natAbs ≤ 1073741824) : Met l y_U_commonDivisor (zw y_U_commonDivisor b_U_commonDivisor 6 (some .int)) { frames := 1, cells := 0, slots := 0, locals := 23 } (va_Pc [.int x, .int y] (fun _ => True)) (prQ (.int (nI (Nat.gcd x.toInt.natAbs y.toInt.natAbs)))) 0 0 (fun _ => False) := by
  refine pr_ofW (by decide) (Nat.le_of_ble_eq_true rfl) (fun p e s m below meth c hx hb hr hml hown hts hlocks ls hl => ?_)
  have hl : lv_has ls 6 [(0, .int x), (1, .int y)] := hl
  have K2 : ∀ (u : Nat) (k a b : Nat) (ls : Array Slot), a ≤ 1073741824 → b ≤ 1073741824 → k + 2 * u ≤ 63 → b < 2 ^ u → Nat.gcd a b = Nat.gcd x.toInt.natAbs y.toInt.natAbs → lv_has ls 6 [(0, .int x), (1, .int y), (2, .int (nI a)), (3, .int (nI b)), (4, .int (nI k))] → W p l e ({ frames := 1, cells := 0, slots := 0, locals := 23 } : Room) s m ([.int x, .int y] : List Value).toArray below meth c s.heap [] 0 0 (MQ below (prQ (.int (nI (Nat.gcd x.toInt.natAbs y.toInt.natAbs)))) ([.int x, .int y] : List Value).toArray s 0 0 (fun _ => False)) (F0 m 13 ls []) := by
    intro u
    induction u with
    | zero =>
      intro k a b ls ha hb1 hk hu hg hl
      have hb2 : b = 0 := by
        rw [Nat.pow_zero] at hu
        omega
      subst hb2
      refine lv_iload_n hx hb d_U_commonDivisor_13 rfl (lv_at hl 3 rfl) ?_
      refine lv_if_eq (tgt := 40) hx hb d_U_commonDivisor_14 (by decide) (fun c14 => ?_) (fun c14 => ?_)
      · refine lv_iload_n hx hb d_U_commonDivisor_40 rfl (lv_at hl 2 rfl) ?_
        exact pr_iret hx hb hr hlocks (by rw [← hg, Nat.gcd_zero_right]) d_U_commonDivisor_41
      · exact absurd rfl c14
    | succ u ih =>
      have hp1 : 2 ^ (u + 1) = 2 ^ u + 2 ^ u := by rw [Nat.pow_succ]; omega
      have K1 : ∀ (k a b : Nat) (ls : Array Slot), a ≤ 1073741824 → b ≤ 1073741824 → k + 2 * u ≤ 62 → (b ≠ 0 → a % b < 2 ^ u) → Nat.gcd a b = Nat.gcd x.toInt.natAbs y.toInt.natAbs → lv_has ls 6 [(0, .int x), (1, .int y), (2, .int (nI a)), (3, .int (nI b)), (4, .int (nI k))] → W p l e ({ frames := 1, cells := 0, slots := 0, locals := 23 } : Room) s m ([.int x, .int y] : List Value).toArray below meth c s.heap [] 0 0 (MQ below (prQ (.int (nI (Nat.gcd x.toInt.natAbs y.toInt.natAbs)))) ([.int x, .int y] : List Value).toArray s 0 0 (fun _ => False)) (F0 m 13 ls []) := by
        intro k a b ls ha hb1 hk hu hg hl
        refine lv_iload_n hx hb d_U_commonDivisor_13 rfl (lv_at hl 3 rfl) ?_
        refine lv_if_eq (tgt := 40) hx hb d_U_commonDivisor_14 (by decide) (fun c14 => ?_) (fun c14 => ?_)
        · have h14 : b = 0 := Nat.eq_zero_of_not_pos (fun q => nI_ne0 q (by omega) c14)
          refine lv_iload_n hx hb d_U_commonDivisor_40 rfl (lv_at hl 2 rfl) ?_
          exact pr_iret hx hb hr hlocks (by rw [← hg, h14, Nat.gcd_zero_right]) d_U_commonDivisor_41
        · have h14 : b ≠ 0 := fun q => c14 (by rw [q]; rfl)
          refine lv_iload hx hb d_U_commonDivisor_17 (lv_at hl 4 rfl) ?_
          refine lv_bipush (v := 64) hx hb d_U_commonDivisor_19 (by decide) ?_
          refine lv_icmp_ge (tgt := 40) hx hb d_U_commonDivisor_21 (by decide) (fun c21 => ?_) (fun c21 => ?_)
          · exact absurd c21 (nI_ge (a := k) (b := 64) (by omega) (by decide))
          · have hne26 : ¬ nI b = 0 := c14
            refine lv_iload_n hx hb d_U_commonDivisor_24 rfl (lv_at hl 2 rfl) ?_
            refine lv_iload_n hx hb d_U_commonDivisor_25 rfl (lv_at hl 3 rfl) ?_
            refine lv_irem hx hb d_U_commonDivisor_26 hne26 ?_
            refine lv_topi (fun x26 ex26 => ?_)
            refine lv_istore (lv' := [(5, .int x26), (0, .int x), (1, .int y), (2, .int (nI a)), (3, .int (nI b)), (4, .int (nI k))]) hx hb d_U_commonDivisor_27 hl (by decide) rfl (fun ls hl => ?_)
            refine lv_iload_n hx hb d_U_commonDivisor_29 rfl (lv_at hl 4 rfl) ?_
            refine lv_istore_n (lv' := [(2, .int (nI b)), (5, .int x26), (0, .int x), (1, .int y), (3, .int (nI b)), (4, .int (nI k))]) hx hb d_U_commonDivisor_30 rfl hl (by decide) rfl (fun ls hl => ?_)
            refine lv_iload hx hb d_U_commonDivisor_31 (lv_at hl 1 rfl) ?_
            refine lv_istore_n (lv' := [(3, .int x26), (2, .int (nI b)), (5, .int x26), (0, .int x), (1, .int y), (4, .int (nI k))]) hx hb d_U_commonDivisor_33 rfl hl (by decide) rfl (fun ls hl => ?_)
            obtain ⟨x34, ex34⟩ : ∃ y : Int32, y = (nI k) + Int32.ofInt 1 := ⟨_, rfl⟩
            refine lv_iinc (v := x34) (lv' := [(4, .int x34), (3, .int x26), (2, .int (nI b)), (5, .int x26), (0, .int x), (1, .int y)]) hx hb d_U_commonDivisor_34 hl (k := 5) rfl (by rw [ex34]) (by decide) rfl (fun ls hl => ?_)
            refine lv_goto (tgt := 13) hx hb d_U_commonDivisor_37 (by decide) ?_
            have e26 : x26 = nI (a % b) := by rw [ex26]; exact pk_rem (by omega) (by omega) (by omega)
            rw [e26, ex34, show Int32.ofInt 1 = 1 from rfl, nI_1] at hl
            exact ih (k + 1) b (a % b) ls hb1 (by have := Nat.mod_lt a (Nat.pos_of_ne_zero h14); omega) (by omega) (hu h14) (by rw [← hg, Nat.gcd_comm b, ← Nat.gcd_rec, Nat.gcd_comm]) (lv_sub hl [4, 5, 2, 1, 0] rfl)
      intro k a b ls ha hb1 hk hu hg hl
      refine lv_iload_n hx hb d_U_commonDivisor_13 rfl (lv_at hl 3 rfl) ?_
      refine lv_if_eq (tgt := 40) hx hb d_U_commonDivisor_14 (by decide) (fun c14 => ?_) (fun c14 => ?_)
      · have h14 : b = 0 := Nat.eq_zero_of_not_pos (fun q => nI_ne0 q (by omega) c14)
        refine lv_iload_n hx hb d_U_commonDivisor_40 rfl (lv_at hl 2 rfl) ?_
        exact pr_iret hx hb hr hlocks (by rw [← hg, h14, Nat.gcd_zero_right]) d_U_commonDivisor_41
      · have h14 : b ≠ 0 := fun q => c14 (by rw [q]; rfl)
        refine lv_iload hx hb d_U_commonDivisor_17 (lv_at hl 4 rfl) ?_
        refine lv_bipush (v := 64) hx hb d_U_commonDivisor_19 (by decide) ?_
        refine lv_icmp_ge (tgt := 40) hx hb d_U_commonDivisor_21 (by decide) (fun c21 => ?_) (fun c21 => ?_)
        · exact absurd c21 (nI_ge (a := k) (b := 64) (by omega) (by decide))
        · have hne26 : ¬ nI b = 0 := c14
          refine lv_iload_n hx hb d_U_commonDivisor_24 rfl (lv_at hl 2 rfl) ?_
          refine lv_iload_n hx hb d_U_commonDivisor_25 rfl (lv_at hl 3 rfl) ?_
          refine lv_irem hx hb d_U_commonDivisor_26 hne26 ?_
          refine lv_topi (fun x26 ex26 => ?_)
          refine lv_istore (lv' := [(5, .int x26), (0, .int x), (1, .int y), (2, .int (nI a)), (3, .int (nI b)), (4, .int (nI k))]) hx hb d_U_commonDivisor_27 hl (by decide) rfl (fun ls hl => ?_)
          refine lv_iload_n hx hb d_U_commonDivisor_29 rfl (lv_at hl 4 rfl) ?_
          refine lv_istore_n (lv' := [(2, .int (nI b)), (5, .int x26), (0, .int x), (1, .int y), (3, .int (nI b)), (4, .int (nI k))]) hx hb d_U_commonDivisor_30 rfl hl (by decide) rfl (fun ls hl => ?_)
          refine lv_iload hx hb d_U_commonDivisor_31 (lv_at hl 1 rfl) ?_
          refine lv_istore_n (lv' := [(3, .int x26), (2, .int (nI b)), (5, .int x26), (0, .int x), (1, .int y), (4, .int (nI k))]) hx hb d_U_commonDivisor_33 rfl hl (by decide) rfl (fun ls hl => ?_)
          obtain ⟨x34, ex34⟩ : ∃ y : Int32, y = (nI k) + Int32.ofInt 1 := ⟨_, rfl⟩
          refine lv_iinc (v := x34) (lv' := [(4, .int x34), (3, .int x26), (2, .int (nI b)), (5, .int x26), (0, .int x), (1, .int y)]) hx hb d_U_commonDivisor_34 hl (k := 5) rfl (by rw [ex34]) (by decide) rfl (fun ls hl => ?_)
          refine lv_goto (tgt := 13) hx hb d_U_commonDivisor_37 (by decide) ?_
          have e26 : x26 = nI (a % b) := by rw [ex26]; exact pk_rem (by omega) (by omega) (by omega)
          rw [e26, ex34, show Int32.ofInt 1 = 1 from rfl, nI_1] at hl
          exact K1 (k + 1) b (a % b) ls hb1 (by have := Nat.mod_lt a (Nat.pos_of_ne_zero h14); omega) (by omega) (fun q => by have := eu_half h14 q; omega) (by rw [← hg, Nat.gcd_comm b, ← Nat.gcd_rec, Nat.gcd_comm]) (lv_sub hl [4, 5, 2, 1, 0] rfl)
  refine lv_iload_n hx hb d_U_commonDivisor_0 rfl (lv_at hl 0 rfl) ?_
  refine va_mabs hx hb (hml.trans hl.1.symm) hown (hts _ k_U_133) (hts _ q_abs_st) (hts _ q_math) (hts _ q_abs_co) (Nat.le_of_ble_eq_true rfl) (Nat.le_of_ble_eq_true rfl) (Nat.zero_le _) (Nat.zero_le _) d_U_commonDivisor_1 ?_
  refine lv_topi (fun x1 ex1 => ?_)
  refine lv_istore_n (lv' := [(2, .int x1), (0, .int x), (1, .int y)]) hx hb d_U_commonDivisor_4 rfl hl (by decide) rfl (fun ls hl => ?_)
  refine lv_iload_n hx hb d_U_commonDivisor_5 rfl (lv_at hl 2 rfl) ?_
  refine va_mabs hx hb (hml.trans hl.1.symm) hown (hts _ k_U_133) (hts _ q_abs_st) (hts _ q_math) (hts _ q_abs_co) (Nat.le_of_ble_eq_true rfl) (Nat.le_of_ble_eq_true rfl) (Nat.zero_le _) (Nat.zero_le _) d_U_commonDivisor_6 ?_
  refine lv_topi (fun x6 ex6 => ?_)
  refine lv_istore_n (lv' := [(3, .int x6), (2, .int x1), (0, .int x), (1, .int y)]) hx hb d_U_commonDivisor_9 rfl hl (by decide) rfl (fun ls hl => ?_)
  refine lv_iconst (v := 0) hx hb d_U_commonDivisor_10 (by decide) ?_
  refine lv_istore (lv' := [(4, .int 0), (3, .int x6), (2, .int x1), (0, .int x), (1, .int y)]) hx hb d_U_commonDivisor_11 hl (by decide) rfl (fun ls hl => ?_)
  have e1 : x1 = nI x.toInt.natAbs := by rw [ex1]; exact abs_nI (by omega)
  have e6 : x6 = nI y.toInt.natAbs := by rw [ex6]; exact abs_nI (by omega)
  rw [e1, e6] at hl
  exact K2 31 0 _ _ ls hx1 hy1 (by decide) (by omega) rfl (lv_sub hl [3, 4, 2, 1, 0] rfl)
