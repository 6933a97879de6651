/-! UnitFinderModel: its static methods; sizes -/
set_option maxHeartbeats 4000000 in
set_option maxRecDepth 100000 in
theorem cm_in (l : Launch) (v lo hi : Int64) : Met l y_M_in (zw y_M_in b_M_in 6 (some .boolean)) { frames := 0, cells := 0, slots := 0, locals := 0 } (va_Pc [.long v, .long lo, .long hi] (fun _ => True)) (prQ (.int (if lo.toInt ≤ v.toInt ∧ v.toInt ≤ hi.toInt then 1 else 0))) 0 0 (fun _ => False) := by
  refine pr_ofW (by decide) (Nat.le_of_ble_eq_true rfl) (fun p e s m below meth c hx hb hr hml hown hts hlocks ls hl => ?_)
  have hl : lv_has ls 6 [(0, .long v), (2, .long lo), (4, .long hi)] := hl
  have h01 : ((if lo.toInt ≤ v.toInt ∧ v.toInt ≤ hi.toInt then 1 else 0 : Int32) = 0 ∨ (if lo.toInt ≤ v.toInt ∧ v.toInt ≤ hi.toInt then 1 else 0 : Int32) = 1) := by split; exact Or.inr rfl; exact Or.inl rfl
  refine lv_lload_n hx hb d_M_in_0 rfl (lv_at hl 0 rfl) ?_
  refine lv_lload_n hx hb d_M_in_1 rfl (lv_at hl 1 rfl) ?_
  refine W.lcmp hx hb d_M_in_2 ?_
  refine lv_if_lt (tgt := 17) hx hb d_M_in_3 (by decide) (fun c3 => ?_) (fun c3 => ?_)
  · have h3 : v.toInt < lo.toInt := Int64.lt_iff_toInt_lt.mp ((lg_cmp_lt _ _).mp c3)
    refine lv_iconst (v := 0) hx hb d_M_in_17 (by decide) ?_
    exact pr_zret hx hb hr hlocks h01 (by rw [if_neg]; omega) d_M_in_18
  · have h3 : ¬ v.toInt < lo.toInt := fun q => c3 ((lg_cmp_lt _ _).mpr (Int64.lt_iff_toInt_lt.mpr q))
    refine lv_lload_n hx hb d_M_in_6 rfl (lv_at hl 0 rfl) ?_
    refine lv_lload hx hb d_M_in_7 (lv_at hl 2 rfl) ?_
    refine W.lcmp hx hb d_M_in_9 ?_
    refine lv_if_gt (tgt := 17) hx hb d_M_in_10 (by decide) (fun c10 => ?_) (fun c10 => ?_)
    · have h9 : hi.toInt < v.toInt := Int64.lt_iff_toInt_lt.mp ((lg_cmp_gt _ _).mp c10)
      refine lv_iconst (v := 0) hx hb d_M_in_17 (by decide) ?_
      exact pr_zret hx hb hr hlocks h01 (by rw [if_neg]; omega) d_M_in_18
    · have h9 : ¬ hi.toInt < v.toInt := fun q => c10 ((lg_cmp_gt _ _).mpr (Int64.lt_iff_toInt_lt.mpr q))
      refine lv_iconst (v := 1) hx hb d_M_in_13 (by decide) ?_
      refine lv_goto (tgt := 18) hx hb d_M_in_14 (by decide) ?_
      exact pr_zret hx hb hr hlocks h01 (by rw [if_pos]; omega) d_M_in_18
  /-- the whole root, counted up -/
  def sqL (V : Nat) : Nat → Nat → Nat
    | 0, r => r
    | f + 1, r => if (r + 1) * (r + 1) ≤ V then sqL V f (r + 1) else r
  def sqr (V : Nat) : Nat := sqL V 46341 0
  theorem sqL_spec {V : Nat} (hV : V < 2147483648) : ∀ f r, r * r ≤ V → r + f = 46341 → sqL V f r * sqL V f r ≤ V ∧ V < (sqL V f r + 1) * (sqL V f r + 1) := by
    intro f
    induction f with
    | zero => intro r h1 h2; rw [show r = 46341 by omega] at h1; omega
    | succ f ih =>
      intro r h1 h2
      rw [sqL]
      split
      · rename_i h; exact ih (r + 1) h (by omega)
      · rename_i h; exact ⟨h1, by omega⟩
  theorem sqr_spec {V : Nat} (hV : V < 2147483648) : sqr V * sqr V ≤ V ∧ V < (sqr V + 1) * (sqr V + 1) := sqL_spec hV 46341 0 (Nat.zero_le _) rfl
  theorem sq_uniq {V a b : Nat} (h1 : a * a ≤ V) (h2 : V < (a + 1) * (a + 1)) (h3 : b * b ≤ V) (h4 : V < (b + 1) * (b + 1)) : a = b := by
    rcases Nat.lt_trichotomy a b with h | h | h
    · have := Nat.mul_le_mul (show a + 1 ≤ b from h) (show a + 1 ≤ b from h); omega
    · exact h
    · have := Nat.mul_le_mul (show b + 1 ≤ a from h) (show b + 1 ≤ a from h); omega
set_option maxHeartbeats 4000000 in
set_option maxRecDepth 100000 in
theorem cm_wholeRoot (l : Launch) {V : Nat} (hV : V < 2147483648) : Met l y_M_wholeRoot (zw y_M_wholeRoot b_M_wholeRoot 4 (some .long)) { frames := 0, cells := 0, slots := 0, locals := 0 } (va_Pc [.long (lN V)] (fun _ => True)) (prQ (.long (lN (sqr V)))) 0 0 (fun _ => False) := by
  refine pr_ofW (by decide) (Nat.le_of_ble_eq_true rfl) (fun p e s m below meth c hx hb hr hml hown hts hlocks ls hl => ?_)
  have hl : lv_has ls 4 [(0, .long (lN V))] := hl
  have K : ∀ (f r : Nat) (ls : Array Slot), r * r ≤ V → r + f = 46341 → sqL V f r = sqr V → lv_has ls 4 [(0, .long (lN V)), (2, .long (lN r))] → W p l e ({ frames := 0, cells := 0, slots := 0, locals := 0 } : Room) s m ([.long (lN V)] : List Value).toArray below meth c s.heap [] 0 0 (MQ below (prQ (.long (lN (sqr V)))) ([.long (lN V)] : List Value).toArray s 0 0 (fun _ => False)) (F0 m 2 ls []) := by
    intro f
    induction f with
    | zero =>
      intro r ls h1 h2 h3 hl
      rw [show r = 46341 by omega] at h1
      omega
    | succ f ih =>
      intro r ls h1 h2 h3 hl
      have hb9 : (r + 1) * (r + 1) ≤ 46341 * 46341 := Nat.mul_le_mul (by omega) (by omega)
      refine lv_lload_n hx hb d_M_wholeRoot_2 rfl (lv_at hl 1 rfl) ?_
      refine lv_lconst (v := 1) hx hb d_M_wholeRoot_3 (by decide) ?_
      refine lv_ladd hx hb d_M_wholeRoot_4 ?_
      refine lv_topl (fun x4 ex4 => ?_)
      refine lv_lload_n hx hb d_M_wholeRoot_5 rfl (lv_at hl 1 rfl) ?_
      refine lv_lconst (v := 1) hx hb d_M_wholeRoot_6 (by decide) ?_
      refine lv_ladd hx hb d_M_wholeRoot_7 ?_
      refine lv_topl (fun x7 ex7 => ?_)
      refine lv_lmul hx hb d_M_wholeRoot_8 ?_
      refine lv_topl (fun x8 ex8 => ?_)
      refine lv_lload_n hx hb d_M_wholeRoot_9 rfl (lv_at hl 0 rfl) ?_
      refine W.lcmp hx hb d_M_wholeRoot_10 ?_
      have e8 : x8 = lN ((r + 1) * (r + 1)) := by rw [ex8, ex4, ex7, lN_1, lN_mul]
      refine lv_if_gt (tgt := 21) hx hb d_M_wholeRoot_11 (by decide) (fun c11 => ?_) (fun c11 => ?_)
      · have h11 : ¬ (r + 1) * (r + 1) ≤ V := by
          have q := (lg_cmp_gt _ _).mp c11
          rw [e8, pk_lLT (by omega) (by omega)] at q
          omega
        rw [sqL, if_neg h11] at h3
        refine lv_lload_n hx hb d_M_wholeRoot_21 rfl (lv_at hl 1 rfl) ?_
        exact pr_lret hx hb hr hlocks (congrArg lN h3) d_M_wholeRoot_22
      · have h11 : (r + 1) * (r + 1) ≤ V := by
          have q : ¬ lN V < x8 := fun q => c11 ((lg_cmp_gt _ _).mpr q)
          rw [e8, pk_lLT (by omega) (by omega)] at q
          omega
        rw [sqL, if_pos h11] at h3
        refine lv_lload_n hx hb d_M_wholeRoot_14 rfl (lv_at hl 1 rfl) ?_
        refine lv_lconst (v := 1) hx hb d_M_wholeRoot_15 (by decide) ?_
        refine lv_ladd hx hb d_M_wholeRoot_16 ?_
        refine lv_topl (fun x16 ex16 => ?_)
        refine lv_lstore_n (lv' := [(2, .long x16), (0, .long (lN V))]) hx hb d_M_wholeRoot_17 rfl hl (by decide) rfl (fun ls hl => ?_)
        refine lv_goto (tgt := 2) hx hb d_M_wholeRoot_18 (by decide) ?_
        rw [ex16, lN_1] at hl
        exact ih (r + 1) ls h11 (by omega) h3 (lv_sub hl [1, 0] rfl)
  refine lv_lconst (v := 0) hx hb d_M_wholeRoot_0 (by decide) ?_
  refine lv_lstore_n (lv' := [(2, .long 0), (0, .long (lN V))]) hx hb d_M_wholeRoot_1 rfl hl (by decide) rfl (fun ls hl => ?_)
  exact K 46341 0 ls (Nat.zero_le _) rfl rfl (lv_sub hl [1, 0] rfl)
set_option maxHeartbeats 4000000 in
set_option maxRecDepth 100000 in
theorem cm_common (l : Launch) {x y : Int64} (hx1 : x.toInt.natAbs ≤ 2147483648) (hy1 : y.toInt.natAbs ≤ 2147483648) : Met l y_M_common (zw y_M_common b_M_common 10 (some .long)) { frames := 0, cells := 0, slots := 0, locals := 0 } (va_Pc [.long x, .long y] (fun _ => True)) (prQ (.long (lN (Nat.gcd x.toInt.natAbs y.toInt.natAbs)))) 0 0 (fun _ => False) := by
  refine pr_ofW (by decide) (Nat.le_of_ble_eq_true rfl) (fun p e s m below meth c hx hb hr hml hown hts hlocks ls hl => ?_)
  have hl : lv_has ls 10 [(0, .long x), (2, .long y)] := hl
  have K : ∀ (b a : Nat) (ls : Array Slot), a ≤ 2147483648 → b ≤ 2147483648 → Nat.gcd a b = Nat.gcd x.toInt.natAbs y.toInt.natAbs → lv_has ls 10 [(0, .long x), (2, .long y), (4, .long (lN a)), (6, .long (lN b))] → W p l e ({ frames := 0, cells := 0, slots := 0, locals := 0 } : Room) s m ([.long x, .long y] : List Value).toArray below meth c s.heap [] 0 0 (MQ below (prQ (.long (lN (Nat.gcd x.toInt.natAbs y.toInt.natAbs)))) ([.long x, .long y] : List Value).toArray s 0 0 (fun _ => False)) (F0 m 28 ls []) := by
    intro b
    induction b using Nat.strongRecOn with
    | _ b ih =>
      intro a ls ha hb1 hg hl
      refine lv_lload hx hb d_M_common_28 (lv_at hl 3 rfl) ?_
      refine lv_lconst (v := 0) hx hb d_M_common_30 (by decide) ?_
      refine W.lcmp hx hb d_M_common_31 ?_
      refine lv_if_le (tgt := 53) hx hb d_M_common_32 (by decide) (fun c32 => ?_) (fun c32 => ?_)
      · have h32 : b = 0 := by
          have q := (lg_cmp_le _ _).mp c32
          rw [show (0 : Int64) = lN 0 from rfl, pk_lLE (by omega) (by decide)] at q
          omega
        refine lv_lload hx hb d_M_common_53 (lv_at hl 2 rfl) ?_
        exact pr_lret hx hb hr hlocks (by rw [← hg, h32, Nat.gcd_zero_right]) d_M_common_55
      · have h32 : 0 < b := by
          have q : ¬ lN b ≤ 0 := fun q => c32 ((lg_cmp_le _ _).mpr q)
          rw [show (0 : Int64) = lN 0 from rfl, pk_lLE (by omega) (by decide)] at q
          omega
        have hne39 : ¬ lN b = 0 := fun q => by
          rw [show (0 : Int64) = lN 0 from rfl, pk_lEQ (by omega) (by decide)] at q
          omega
        refine lv_lload hx hb d_M_common_35 (lv_at hl 2 rfl) ?_
        refine lv_lload hx hb d_M_common_37 (lv_at hl 3 rfl) ?_
        refine lv_lrem hx hb d_M_common_39 hne39 ?_
        refine lv_topl (fun x39 ex39 => ?_)
        refine lv_lstore (lv' := [(8, .long x39), (0, .long x), (2, .long y), (4, .long (lN a)), (6, .long (lN b))]) hx hb d_M_common_40 hl (by decide) rfl (fun ls hl => ?_)
        refine lv_lload hx hb d_M_common_42 (lv_at hl 4 rfl) ?_
        refine lv_lstore (lv' := [(4, .long (lN b)), (8, .long x39), (0, .long x), (2, .long y), (6, .long (lN b))]) hx hb d_M_common_44 hl (by decide) rfl (fun ls hl => ?_)
        refine lv_lload hx hb d_M_common_46 (lv_at hl 1 rfl) ?_
        refine lv_lstore (lv' := [(6, .long x39), (4, .long (lN b)), (8, .long x39), (0, .long x), (2, .long y)]) hx hb d_M_common_48 hl (by decide) rfl (fun ls hl => ?_)
        refine lv_goto (tgt := 28) hx hb d_M_common_50 (by decide) ?_
        have e39 : x39 = lN (a % b) := by rw [ex39]; exact pk_lRem (by omega) h32 (by omega)
        rw [e39] at hl
        exact ih (a % b) (Nat.mod_lt a h32) b ls hb1 (by have := Nat.mod_lt a h32; omega) (by rw [← hg, Nat.gcd_comm b, ← Nat.gcd_rec, Nat.gcd_comm]) (lv_sub hl [3, 4, 1, 0] rfl)
  have A : ∀ (v : Int64), v.toInt.natAbs ≤ 2147483648 → ((0 ≤ v.toInt → v = lN v.toInt.natAbs) ∧ (v.toInt < 0 → -v = lN v.toInt.natAbs)) := fun v hv => by
    constructor
    · intro h
      apply Int64.toInt_inj.mp
      rw [pk_lT (by omega)]
      omega
    · intro h
      apply Int64.toInt_inj.mp
      rw [pk_lT (by omega), Jvm.Kit.i64_neg (by omega)]
      omega
  have E26 : ∀ (v4 v6 : Int64) (ls : Array Slot), v4 = lN x.toInt.natAbs → v6 = lN y.toInt.natAbs → lv_has ls 10 [(0, .long x), (2, .long y), (4, .long v4)] → W p l e ({ frames := 0, cells := 0, slots := 0, locals := 0 } : Room) s m ([.long x, .long y] : List Value).toArray below meth c s.heap [] 0 0 (MQ below (prQ (.long (lN (Nat.gcd x.toInt.natAbs y.toInt.natAbs)))) ([.long x, .long y] : List Value).toArray s 0 0 (fun _ => False)) (F0 m 26 ls [.long v6]) := by
    intro v4 v6 ls e4 e6 hl
    refine lv_lstore (lv' := [(6, .long v6), (0, .long x), (2, .long y), (4, .long v4)]) hx hb d_M_common_26 hl (by decide) rfl (fun ls hl => ?_)
    rw [e4, e6] at hl
    exact K y.toInt.natAbs x.toInt.natAbs ls hx1 hy1 rfl (lv_sub hl [1, 2, 3, 0] rfl)
  have E12 : ∀ (v4 : Int64) (ls : Array Slot), v4 = lN x.toInt.natAbs → lv_has ls 10 [(0, .long x), (2, .long y)] → W p l e ({ frames := 0, cells := 0, slots := 0, locals := 0 } : Room) s m ([.long x, .long y] : List Value).toArray below meth c s.heap [] 0 0 (MQ below (prQ (.long (lN (Nat.gcd x.toInt.natAbs y.toInt.natAbs)))) ([.long x, .long y] : List Value).toArray s 0 0 (fun _ => False)) (F0 m 12 ls [.long v4]) := by
    intro v4 ls e4 hl
    refine lv_lstore (lv' := [(4, .long v4), (0, .long x), (2, .long y)]) hx hb d_M_common_12 hl (by decide) rfl (fun ls hl => ?_)
    refine lv_lload_n hx hb d_M_common_14 rfl (lv_at hl 2 rfl) ?_
    refine lv_lconst (v := 0) hx hb d_M_common_15 (by decide) ?_
    refine W.lcmp hx hb d_M_common_16 ?_
    refine lv_if_ge (tgt := 25) hx hb d_M_common_17 (by decide) (fun c17 => ?_) (fun c17 => ?_)
    · have h17 : 0 ≤ y.toInt := by
        have q := (lg_cmp_ge _ _).mp c17
        rw [Int64.le_iff_toInt_le, Int64.toInt_zero] at q
        exact q
      refine lv_lload_n hx hb d_M_common_25 rfl (lv_at hl 2 rfl) ?_
      exact E26 v4 y ls e4 ((A y hy1).1 h17) (lv_sub hl [1, 2, 0] rfl)
    · have h17 : y.toInt < 0 := by
        have q : ¬ (0 : Int64) ≤ y := fun q => c17 ((lg_cmp_ge _ _).mpr q)
        rw [Int64.le_iff_toInt_le, Int64.toInt_zero] at q
        omega
      refine lv_lload_n hx hb d_M_common_20 rfl (lv_at hl 2 rfl) ?_
      refine lv_lneg hx hb d_M_common_21 ?_
      refine lv_topl (fun x21 ex21 => ?_)
      refine lv_goto (tgt := 26) hx hb d_M_common_22 (by decide) ?_
      exact E26 v4 x21 ls e4 (by rw [ex21]; exact (A y hy1).2 h17) (lv_sub hl [1, 2, 0] rfl)
  refine lv_lload_n hx hb d_M_common_0 rfl (lv_at hl 0 rfl) ?_
  refine lv_lconst (v := 0) hx hb d_M_common_1 (by decide) ?_
  refine W.lcmp hx hb d_M_common_2 ?_
  refine lv_if_ge (tgt := 11) hx hb d_M_common_3 (by decide) (fun c3 => ?_) (fun c3 => ?_)
  · have h3 : 0 ≤ x.toInt := by
      have q := (lg_cmp_ge _ _).mp c3
      rw [Int64.le_iff_toInt_le, Int64.toInt_zero] at q
      exact q
    refine lv_lload_n hx hb d_M_common_11 rfl (lv_at hl 0 rfl) ?_
    exact E12 x ls ((A x hx1).1 h3) (lv_sub hl [0, 1] rfl)
  · have h3 : x.toInt < 0 := by
      have q : ¬ (0 : Int64) ≤ x := fun q => c3 ((lg_cmp_ge _ _).mpr q)
      rw [Int64.le_iff_toInt_le, Int64.toInt_zero] at q
      omega
    refine lv_lload_n hx hb d_M_common_6 rfl (lv_at hl 0 rfl) ?_
    refine lv_lneg hx hb d_M_common_7 ?_
    refine lv_topl (fun x7 ex7 => ?_)
    refine lv_goto (tgt := 12) hx hb d_M_common_8 (by decide) ?_
    exact E12 x7 ls (by rw [ex7]; exact (A x hx1).2 h3) (lv_sub hl [0, 1] rfl)
  /-- signed values -/
  noncomputable def HW : Nat := Classical.choose (⟨32768 * 65536 ^ 1099, rfl⟩ : ∃ n : Nat, n = 32768 * 65536 ^ 1099)
  theorem HW_def : HW = 32768 * 65536 ^ 1099 := Classical.choose_spec (⟨32768 * 65536 ^ 1099, rfl⟩ : ∃ n : Nat, n = 32768 * 65536 ^ 1099)
  theorem HW_2 : WW = 2 * HW := by
    rw [HW_def, WW_def, show (65536 : Nat) ^ 1100 = 65536 ^ 1099 * 65536 from Nat.pow_succ .., ← Nat.mul_assoc, Nat.mul_comm]
  theorem top_iff {f : Nat → Int32} {i : Nat} (hi : i < 11) (h : dgOk f) : 32767 < wn (f (1100 * i + 1099)) ↔ HW ≤ rv f i := by
    have h1 := dv_lt hi h 1099 (by decide)
    have e : rv f i = dv f i 1099 + wn (f (1100 * i + 1099)) * 65536 ^ 1099 := rfl
    rw [e, HW_def]
    generalize (65536 : Nat) ^ 1099 = P at h1
    generalize wn (f (1100 * i + 1099)) = t
    constructor
    · intro q
      have := Nat.mul_le_mul_right P (show 32768 ≤ t by omega)
      omega
    · intro q
      apply Classical.byContradiction
      intro w
      have := Nat.mul_le_mul_right P (show t + 1 ≤ 32768 by omega)
      rw [Nat.add_mul, Nat.one_mul] at this
      omega
  noncomputable def sv (f : Nat → Int32) (i : Nat) : Int := if rv f i < HW then (rv f i : Int) else (rv f i : Int) - (WW : Int)
  theorem sv_eq {f f2 : Nat → Int32} {i j : Nat} (h : rv f i = rv f2 j) : sv f i = sv f2 j := by unfold sv; rw [h]
  theorem rsm.sv {f g : Nat → Int32} {to i : Nat} (h : rsm f g to) (hi : i ≠ to) : sv g i = sv f i := sv_eq (h.rv hi)
  theorem rsm.tr {a b c : Nat → Int32} {to : Nat} (h : rsm a b to) (k : rsm b c to) : rsm a c to := fun q w => (k q w).trans (h q w)
set_option maxHeartbeats 4000000 in
set_option maxRecDepth 100000 in
theorem cm_sized (l : Launch) (z : YM) (sz : Nat) (g : SM) {i : Nat} (hi : i < 10) (hok : dgOk g.2.2.2.2.2) : Met l y_M_sized (zw y_M_sized b_M_sized 2 (some .int)) { frames := 2, cells := 0, slots := 0, locals := 55 } (va_Pc [.ref (oM z), .int (nI i)] (mI z g sz)) (va_Qi (fun r g2 => ∃ f n, g2 = mF g f ∧ dgOk f ∧ rsm g.2.2.2.2.2 f 10 ∧ rv f 10 = (sv g.2.2.2.2.2 i).natAbs ∧ r = nI n ∧ n ≤ 1100 ∧ (∀ k, n ≤ k → k < 1100 → f (1100 * 10 + k) = 0) ∧ (n = 0 ∨ f (1100 * 10 + (n - 1)) ≠ 0)) (mO z sz) (yA z sz)) 0 0 (yA z sz) := by
  refine m_ofW (by decide) (Nat.le_of_ble_eq_true rfl) (fun p e s m below meth c hx hb hr hml hown hts hlocks hname hsz ls hU hl => ?_)
  have hl : lv_has ls 2 [(0, .ref (oM z)), (1, .int (nI i))] := hl
  have htop := top_iff (i := i) (by omega) hok
  have hrl := rv_lt (i := i) (by omega) hok
  have hww := HW_2
  have E : ∀ (f : Nat → Int32) (H : Heap) (locs : List Loc) (ls : Array Slot), dgOk f → rsm g.2.2.2.2.2 f 10 → rv f 10 = (sv g.2.2.2.2.2 i).natAbs → Ms z (mF g f) s.heap H locs s → lv_has ls 2 [(0, .ref (oM z)), (1, .int (nI i))] → W p l e ({ frames := 2, cells := 0, slots := 0, locals := 55 } : Room) s m ([.ref (oM z), .int (nI i)] : List Value).toArray below meth c H locs 0 0 (MQ below (va_Qi (fun r g2 => ∃ f n, g2 = mF g f ∧ dgOk f ∧ rsm g.2.2.2.2.2 f 10 ∧ rv f 10 = (sv g.2.2.2.2.2 i).natAbs ∧ r = nI n ∧ n ≤ 1100 ∧ (∀ k, n ≤ k → k < 1100 → f (1100 * 10 + k) = 0) ∧ (n = 0 ∨ f (1100 * 10 + (n - 1)) ≠ 0)) (mO z sz) (yA z sz)) ([.ref (oM z), .int (nI i)] : List Value).toArray s 0 0 (yA z sz)) (F0 m 30 ls []) := by
    intro f H locs ls h1 h2 h3 hU hl
    refine lv_aload_n hx hb d_M_sized_30 rfl (lv_at hl 0 rfl) ?_
    refine lv_bipush (v := 10) hx hb d_M_sized_31 (by decide) ?_
    refine m_calli (m_run (As := [.int 10]) (rest := []) hx hb hml hown hts hU (cm_length l z _ (mF g f) (i := 10) (by decide)) (w_M_length_cw hts k_M_37 rfl rfl ⟨Nat.le_of_ble_eq_true rfl, Nat.le_of_ble_eq_true rfl⟩) (m_recv hU) rfl hl.1 rfl (lv_room (Nat.le_of_ble_eq_true rfl)) d_M_sized_33 ⟨Nat.zero_le _, Nat.zero_le _⟩) hU (fun r33 g33 H locs hp hU => ?_)
    obtain ⟨rfl, n, k1, k2, k3, k4⟩ := hp
    exact m_iret hx hb hr hlocks hsz hU ⟨f, n, rfl, h1, h2, h3, k2, k1, k3, k4⟩ d_M_sized_36
  refine lv_aload_n hx hb d_M_sized_0 rfl (lv_at hl 0 rfl) ?_
  refine lv_iload_n hx hb d_M_sized_1 rfl (lv_at hl 1 rfl) ?_
  refine m_calli (m_run (As := [.int (nI i)]) (rest := []) hx hb hml hown hts hU (cm_isBelow l z _ g (i := i) (by omega)) (w_M_isBelow_cw hts k_M_123 rfl rfl ⟨Nat.le_of_ble_eq_true rfl, Nat.le_of_ble_eq_true rfl⟩) (m_recv hU) rfl hl.1 rfl (lv_room (Nat.le_of_ble_eq_true rfl)) d_M_sized_2 ⟨Nat.zero_le _, Nat.zero_le _⟩) hU (fun r2 g2 H locs hp hU => ?_)
  obtain ⟨q1, q2⟩ := hp
  rw [q1] at hU
  rw [dg_int (hok _ (by omega))] at q2
  refine lv_if_eq (tgt := 23) hx hb d_M_sized_5 (by decide) (fun c5 => ?_) (fun c5 => ?_)
  · have h5 : rv g.2.2.2.2.2 i < HW := by
      apply Classical.byContradiction
      intro w
      rw [q2, if_pos (by have := htop.mpr (by omega); omega)] at c5
      exact absurd c5 (by decide)
    refine lv_aload_n hx hb d_M_sized_23 rfl (lv_at hl 0 rfl) ?_
    refine lv_bipush (v := 10) hx hb d_M_sized_24 (by decide) ?_
    refine lv_iload_n hx hb d_M_sized_26 rfl (lv_at hl 1 rfl) ?_
    refine m_callv (m_run (As := [.int 10, .int (nI i)]) (rest := []) hx hb hml hown hts hU (cm_copy l z _ g (to := 10) (fr := i) (by decide) (by omega) (by omega) hok) (w_M_copy_cw hts k_M_73 rfl rfl ⟨Nat.le_of_ble_eq_true rfl, Nat.le_of_ble_eq_true rfl⟩) (m_recv hU) rfl hl.1 rfl (lv_room (Nat.le_of_ble_eq_true rfl)) d_M_sized_27 ⟨Nat.zero_le _, Nat.zero_le _⟩) hU (fun g27 H locs hp hU => ?_)
    obtain ⟨f, rfl, k1, k2, k3⟩ := hp
    exact E f _ _ ls k1 k2 (by rw [k3, sv, if_pos h5]; omega) hU hl
  · have h5 : HW ≤ rv g.2.2.2.2.2 i := by
      apply Classical.byContradiction
      intro w
      exact c5 (by rw [q2, if_neg (fun q => w (htop.mp (by omega)))])
    refine lv_aload_n hx hb d_M_sized_8 rfl (lv_at hl 0 rfl) ?_
    refine lv_bipush (v := 10) hx hb d_M_sized_9 (by decide) ?_
    refine lv_ldc2 (v := (-1)) hx hb hown (hts _ k_M_127) d_M_sized_11 ?_
    refine lv_iload_n hx hb d_M_sized_14 rfl (lv_at hl 1 rfl) ?_
    refine lv_lconst (v := 0) hx hb d_M_sized_15 (by decide) ?_
    refine lv_iload_n hx hb d_M_sized_16 rfl (lv_at hl 1 rfl) ?_
    refine m_callv (m_run (As := [.int 10, .long (-1), .int (nI i), .long 0, .int (nI i)]) (rest := []) hx hb hml hown hts hU (cm_combine l z _ g (to := 10) (i := i) (j := i) (by decide) (by omega) (by omega) (x := -1) (y := 0) (by decide) (by decide) (by decide) (by decide) hok) (w_M_combine_cw hts k_M_69 rfl rfl ⟨Nat.le_of_ble_eq_true rfl, Nat.le_of_ble_eq_true rfl⟩) (m_recv hU) rfl hl.1 rfl (lv_room (Nat.le_of_ble_eq_true rfl)) d_M_sized_17 ⟨Nat.zero_le _, Nat.zero_le _⟩) hU (fun g17 H locs hp hU => ?_)
    obtain ⟨f, rfl, k1, k2, k3⟩ := hp
    refine lv_goto (tgt := 30) hx hb d_M_sized_20 (by decide) ?_
    exact E f _ _ ls k1 k2 (by
      rw [show (-1 : Int64).toInt = -1 from rfl, show (0 : Int64).toInt = 0 from rfl, Int.zero_mul, Int.add_zero] at k3
      rw [sv, if_neg (by omega)]
      have h9 : (-1 * (rv g.2.2.2.2.2 i : Int)) % (WW : Int) = (WW : Int) - (rv g.2.2.2.2.2 i : Int) := by
        rw [show -1 * (rv g.2.2.2.2.2 i : Int) = ((WW : Int) - (rv g.2.2.2.2.2 i : Int)) + (WW : Int) * (-1) by omega, Int.add_mul_emod_self_left]
        have hp : 0 < HW := by rw [HW_def]; exact Nat.mul_pos (by decide) (Nat.pow_pos (by decide))
        exact Int.emod_eq_of_lt (by omega) (by omega)
      rw [h9] at k3
      omega) hU (lv_sub hl [0, 1] rfl)
