/-! ask -/
theorem mb30 {x y : Int} (hx : -1073741824 ≤ x ∧ x ≤ 1073741824) (hy : -1073741824 ≤ y ∧ y ≤ 1073741824) : -1152921504606846976 ≤ x * y ∧ x * y ≤ 1152921504606846976 := by
  have h : (x * y).natAbs ≤ 1073741824 * 1073741824 := by rw [Int.natAbs_mul]; exact Nat.mul_le_mul (by omega) (by omega)
  omega
def szOk (a b c : Int) : Prop := (-1073741824 ≤ a ∧ a ≤ 1073741824) ∧ (-1073741824 ≤ b ∧ b ≤ 1073741824) ∧ (-1073741824 ≤ c ∧ c ≤ 1073741824)
def akOk (d a b c : Int) : Prop := szOk a b c ∧ b * b - 4 * a * c = d ∧ Nat.gcd (Nat.gcd a.natAbs b.natAbs) c.natAbs = 1
theorem gcd_le' {a b : Nat} {M : Nat} (ha : a ≤ M) (hb : b ≤ M) : Nat.gcd a b ≤ M := by
  rcases Nat.eq_zero_or_pos a with h | h
  · rw [h, Nat.gcd_zero_left]; exact hb
  · exact Nat.le_trans (Nat.gcd_le_left b h) ha
set_option maxHeartbeats 4000000 in
set_option maxRecDepth 100000 in
theorem cm_ask (l : Launch) (z : YM) (sz : Nat) (g : SM) (a b c9 : Int32) {d a0 b0 c0 : Int} (hd : tk d) (hnt : ∀ D, dOk D → NTok D) (hS : mS g d a0 b0 c0) : Met l y_M_ask (zw y_M_ask b_M_ask 5 none) { frames := 3, cells := 0, slots := 0, locals := 81 } (va_Pc [.ref (oM z), .int a, .int b, .int c9] (mI z g sz)) (va_Qv (fun g2 => (akOk d a.toInt b.toInt c9.toInt → g2.1 = 0 ∧ mS g2 d a.toInt b.toInt c9.toInt) ∧ (¬ akOk d a.toInt b.toInt c9.toInt → g2 = mC g 1)) (mO z sz) (yA z sz)) 0 0 (yA z sz) := by
  refine m_ofW (by decide) (Nat.le_of_ble_eq_true rfl) (fun p e s m below meth c hx hb hr hml hown hts hlocks hname hsz ls hU hl => ?_)
  have hl : lv_has ls 5 [(0, .ref (oM z)), (1, .int a), (2, .int b), (3, .int c9)] := hl
  have hub := uW_bd hd hnt
  obtain ⟨A, eA⟩ : ∃ A, A = a.toInt := ⟨_, rfl⟩
  obtain ⟨B, eB⟩ : ∃ B, B = b.toInt := ⟨_, rfl⟩
  obtain ⟨C, eC⟩ : ∃ C, C = c9.toInt := ⟨_, rfl⟩
  have tA : ∀ x : Int64, x = a.toInt64 → x.toInt = A := fun x hx => by rw [hx, eA]; exact Jvm.Kit.i64_of_i32 a
  have tB9 : ∀ x : Int64, x = b.toInt64 → x.toInt = B := fun x hx => by rw [hx, eB]; exact Jvm.Kit.i64_of_i32 b
  have tC : ∀ x : Int64, x = c9.toInt64 → x.toInt = C := fun x hx => by rw [hx, eC]; exact Jvm.Kit.i64_of_i32 c9
  have hAr : -2147483648 ≤ A ∧ A < 2147483648 := by rw [eA]; exact i32_rng a
  have hBr : -2147483648 ≤ B ∧ B < 2147483648 := by rw [eB]; exact i32_rng b
  have hCr : -2147483648 ≤ C ∧ C < 2147483648 := by rw [eC]; exact i32_rng c9
  have E99 : ∀ (v : Int32) (H : Heap) (locs : List Loc) (ls : Array Slot), (v = 1 ∧ akOk d A B C ∨ v = 0 ∧ ¬ akOk d A B C) → Ms z g s.heap H locs s → lv_has ls 5 [(0, .ref (oM z)), (1, .int a), (2, .int b), (3, .int c9)] → W p l e ({ frames := 3, cells := 0, slots := 0, locals := 81 } : Room) s m ([.ref (oM z), .int a, .int b, .int c9] : List Value).toArray below meth c H locs 0 0 (MQ below (va_Qv (fun g2 => (akOk d a.toInt b.toInt c9.toInt → g2.1 = 0 ∧ mS g2 d a.toInt b.toInt c9.toInt) ∧ (¬ akOk d a.toInt b.toInt c9.toInt → g2 = mC g 1)) (mO z sz) (yA z sz)) ([.ref (oM z), .int a, .int b, .int c9] : List Value).toArray s 0 0 (yA z sz)) (F0 m 99 ls [.int v]) := by
    intro v H locs ls hv hU hl
    refine lv_istore (lv' := [(4, .int v), (0, .ref (oM z)), (1, .int a), (2, .int b), (3, .int c9)]) hx hb d_M_ask_99 hl (by decide) rfl (fun ls hl => ?_)
    refine lv_aload_n hx hb d_M_ask_101 rfl (lv_at hl 1 rfl) ?_
    refine lv_iload hx hb d_M_ask_102 (lv_at hl 0 rfl) ?_
    refine lv_if_eq (tgt := 111) hx hb d_M_ask_104 (by decide) (fun c104 => ?_) (fun c104 => ?_)
    · have hv0 : v = 0 ∧ ¬ akOk d A B C := hv.resolve_left fun q => absurd (q.1.symm.trans c104) (by decide)
      refine lv_iconst (v := 1) hx hb d_M_ask_111 (by decide) ?_
      refine mp_C hx hb hts hown hU (hts _ k_M_23) d_M_ask_112 (fun H locs hU => ?_)
      generalize eg112 : mC g 1 = g112 at hU
      refine lv_iload hx hb d_M_ask_115 (lv_at hl 0 rfl) ?_
      refine lv_if_eq (tgt := 130) hx hb d_M_ask_117 (by decide) (fun c117 => ?_) (fun c117 => ?_)
      · exact m_vret hx hb hr hlocks hsz hU ⟨fun q => absurd (by rw [eA, eB, eC]; exact q) hv0.2, fun _ => by first | exact eg112.symm | rfl⟩ d_M_ask_130
      · exact absurd c104 c117
    · have hv1 : v = 1 ∧ akOk d A B C := hv.resolve_right fun q => c104 q.1
      refine lv_iconst (v := 0) hx hb d_M_ask_107 (by decide) ?_
      refine lv_goto (tgt := 112) hx hb d_M_ask_108 (by decide) ?_
      refine mp_C hx hb hts hown hU (hts _ k_M_23) d_M_ask_112 (fun H locs hU => ?_)
      generalize eg112 : mC g 0 = g112 at hU
      refine lv_iload hx hb d_M_ask_115 (lv_at hl 0 rfl) ?_
      refine lv_if_eq (tgt := 130) hx hb d_M_ask_117 (by decide) (fun c117 => ?_) (fun c117 => ?_)
      · exact absurd c117 c104
      · refine lv_aload_n hx hb d_M_ask_120 rfl (lv_at hl 1 rfl) ?_
        refine lv_iload_n hx hb d_M_ask_121 rfl (lv_at hl 2 rfl) ?_
        refine lv_i2l hx hb d_M_ask_122 rfl ?_
        refine lv_topl (fun x122 ex122 => ?_)
        refine lv_iload_n hx hb d_M_ask_123 rfl (lv_at hl 3 rfl) ?_
        refine lv_i2l hx hb d_M_ask_124 rfl ?_
        refine lv_topl (fun x124 ex124 => ?_)
        refine lv_iload_n hx hb d_M_ask_125 rfl (lv_at hl 4 rfl) ?_
        refine lv_i2l hx hb d_M_ask_126 rfl ?_
        refine lv_topl (fun x126 ex126 => ?_)
        have u1 := tA x122 ex122
        have u2 := tB9 x124 ex124
        have u3 := tC x126 ex126
        obtain ⟨s1, s2, s3, s4, ⟨s5, s6, s7, s8⟩, -⟩ := hS
        have hf : g112.2.2.2.2.2 = g.2.2.2.2.2 := by rw [← eg112]; rfl
        refine m_callv (m_run (As := [.long x122, .long x124, .long x126]) (rest := []) hx hb hml hown hts hU (cm_turn l z _ g112 hub.1 hub.2 (a := x122) (b := x124) (c9 := x126) (by omega) (by omega) (by omega) (by omega) (by omega) (by omega) (by rw [hf]; exact s4) (by rw [hf]; exact s5) (by rw [hf]; exact s6)) (w_M_turn_cw hts k_M_61 rfl rfl ⟨Nat.le_of_ble_eq_true rfl, Nat.le_of_ble_eq_true rfl⟩) (m_recv hU) rfl hl.1 rfl (lv_room (Nat.le_of_ble_eq_true rfl)) d_M_ask_127 ⟨Nat.zero_le _, Nat.zero_le _⟩) hU (fun g127 H locs hp hU => ?_)
        obtain ⟨f, rfl, k1, k2, k3, k4, k5, k6⟩ := hp
        rw [u2] at k3 k6
        rw [u3] at k4
        rw [u1] at k5
        rw [hf] at k2
        have keep : ∀ i, i < 2 ∨ (5 < i ∧ i < 11) → sv f i = sv g.2.2.2.2.2 i := fun i hi => sv_eq (dv_congr fun q hq => k2 _ (by omega))
        have q1 : (mF g112 f).1 = 0 := by rw [← eg112]; rfl
        have q2 : (mF g112 f).2.1 = g.2.1 := by rw [← eg112]; rfl
        have q3 : (mF g112 f).2.2.1 = g.2.2.1 := by rw [← eg112]; rfl
        have q4 : (mF g112 f).2.2.2.1 = g.2.2.2.1 := by rw [← eg112]; rfl
        exact m_vret hx hb hr hlocks hsz hU ⟨fun _ => ⟨q1, by
          rw [← eA, ← eB, ← eC]
          exact ⟨by rw [q2]; exact s1, by rw [q3]; exact s2, by rw [q4]; exact s3, k1, ⟨(keep 0 (by omega)).trans s5, (keep 1 (by omega)).trans s6, (keep 6 (by omega)).trans s7, (keep 7 (by omega)).trans s8⟩, k3, k4, k5, k6⟩⟩, fun q => absurd (by rw [← eA, ← eB, ← eC]; exact hv1.2) q⟩ d_M_ask_130
  have E47 : ∀ (v : Int32) (H : Heap) (locs : List Loc) (ls : Array Slot), (v = 1 ∧ szOk A B C ∨ v = 0 ∧ ¬ szOk A B C) → Ms z g s.heap H locs s → lv_has ls 5 [(0, .ref (oM z)), (1, .int a), (2, .int b), (3, .int c9)] → W p l e ({ frames := 3, cells := 0, slots := 0, locals := 81 } : Room) s m ([.ref (oM z), .int a, .int b, .int c9] : List Value).toArray below meth c H locs 0 0 (MQ below (va_Qv (fun g2 => (akOk d a.toInt b.toInt c9.toInt → g2.1 = 0 ∧ mS g2 d a.toInt b.toInt c9.toInt) ∧ (¬ akOk d a.toInt b.toInt c9.toInt → g2 = mC g 1)) (mO z sz) (yA z sz)) ([.ref (oM z), .int a, .int b, .int c9] : List Value).toArray s 0 0 (yA z sz)) (F0 m 47 ls [.int v]) := by
    intro v H locs ls hv hU hl
    refine lv_istore (lv' := [(4, .int v), (0, .ref (oM z)), (1, .int a), (2, .int b), (3, .int c9)]) hx hb d_M_ask_47 hl (by decide) rfl (fun ls hl => ?_)
    refine lv_iload hx hb d_M_ask_49 (lv_at hl 0 rfl) ?_
    refine lv_if_eq (tgt := 98) hx hb d_M_ask_51 (by decide) (fun c51 => ?_) (fun c51 => ?_)
    · have hv0 : v = 0 ∧ ¬ szOk A B C := hv.resolve_left fun q => absurd (q.1.symm.trans c51) (by decide)
      refine lv_iconst (v := 0) hx hb d_M_ask_98 (by decide) ?_
      exact E99 0 _ _ ls (Or.inr ⟨rfl, fun q => hv0.2 q.1⟩) hU (lv_sub hl [1, 2, 3, 4] rfl)
    · have hv1 : v = 1 ∧ szOk A B C := hv.resolve_right fun q => c51 q.1
      have hz := hv1.2
      have m1 := mb30 hz.2.1 hz.2.1
      have m2 := mb30 hz.1 hz.2.2
      have m3 := hz.1
      have hac : 4 * A * C = 4 * (A * C) := Int.mul_assoc 4 A C
      refine lv_iload_n hx hb d_M_ask_54 rfl (lv_at hl 3 rfl) ?_
      refine lv_i2l hx hb d_M_ask_55 rfl ?_
      refine lv_topl (fun x55 ex55 => ?_)
      refine lv_iload_n hx hb d_M_ask_56 rfl (lv_at hl 3 rfl) ?_
      refine lv_i2l hx hb d_M_ask_57 rfl ?_
      refine lv_topl (fun x57 ex57 => ?_)
      refine lv_lmul hx hb d_M_ask_58 ?_
      refine lv_topl (fun x58 ex58 => ?_)
      refine lv_ldc2 (v := 4) hx hb hown (hts _ k_M_59) d_M_ask_59 ?_
      refine lv_iload_n hx hb d_M_ask_62 rfl (lv_at hl 2 rfl) ?_
      refine lv_i2l hx hb d_M_ask_63 rfl ?_
      refine lv_topl (fun x63 ex63 => ?_)
      refine lv_lmul hx hb d_M_ask_64 ?_
      refine lv_topl (fun x64 ex64 => ?_)
      refine lv_iload_n hx hb d_M_ask_65 rfl (lv_at hl 4 rfl) ?_
      refine lv_i2l hx hb d_M_ask_66 rfl ?_
      refine lv_topl (fun x66 ex66 => ?_)
      refine lv_lmul hx hb d_M_ask_67 ?_
      refine lv_topl (fun x67 ex67 => ?_)
      refine lv_lsub hx hb d_M_ask_68 ?_
      refine lv_topl (fun x68 ex68 => ?_)
      refine lv_aload_n hx hb d_M_ask_69 rfl (lv_at hl 1 rfl) ?_
      refine va_get (D := z.1) (ci := 3) (v := .long g.2.1) (C := R_M) (T := F_M) (N := 9) hx hb hts in_M hown hU.2.1 hU.1 0 rfl rfl 1 (by decide) (hts _ k_M_9) (fun _ h9 => h9) rfl d_M_ask_70 ?_
      refine lv_topl (fun x70 ex70 => ?_)
      refine W.lcmp hx hb d_M_ask_73 ?_
      have t58 : x58.toInt = B * B := by rw [ex58, Jvm.Kit.i64_mul] <;> rw [tB9 x55 ex55, tB9 x57 ex57] <;> omega
      have t64 : x64.toInt = 4 * A := by rw [ex64, Jvm.Kit.i64_mul] <;> rw [tA x63 ex63, show (4 : Int64).toInt = 4 from rfl] <;> omega
      have t67 : x67.toInt = 4 * A * C := by rw [ex67, Jvm.Kit.i64_mul] <;> rw [t64, tC x66 ex66] <;> rw [hac] <;> omega
      have t68 : x68.toInt = B * B - 4 * A * C := by rw [ex68, Jvm.Kit.i64_sub] <;> rw [t58, t67] <;> rw [hac] <;> omega
      have t70 : x70.toInt = d := by rw [ex70]; exact hS.1
      refine lv_if_ne (tgt := 98) hx hb d_M_ask_74 (by decide) (fun c74 => ?_) (fun c74 => ?_)
      · have h74 : ¬ akOk d A B C := fun q => c74 ((lg_cmp_eq _ _).mpr (Int64.toInt_inj.mp (by rw [t68, t70]; exact q.2.1)))
        refine lv_iconst (v := 0) hx hb d_M_ask_98 (by decide) ?_
        exact E99 0 _ _ ls (Or.inr ⟨rfl, h74⟩) hU (lv_sub hl [1, 2, 3, 4] rfl)
      · have h74 : B * B - 4 * A * C = d := by
          have q := (lg_cmp_eq _ _).mp c74
          rw [← t68, ← t70, q]
        refine lv_iload_n hx hb d_M_ask_77 rfl (lv_at hl 2 rfl) ?_
        refine lv_i2l hx hb d_M_ask_78 rfl ?_
        refine lv_topl (fun x78 ex78 => ?_)
        refine lv_iload_n hx hb d_M_ask_79 rfl (lv_at hl 3 rfl) ?_
        refine lv_i2l hx hb d_M_ask_80 rfl ?_
        refine lv_topl (fun x80 ex80 => ?_)
        have v78 := tA x78 ex78
        have v80 := tB9 x80 ex80
        refine pr_call (As := [.long x78, .long x80]) (rest := []) hx hb hml hown hts (cm_common l (x := x78) (y := x80) (by omega) (by omega)) (w_M_common_cw hts k_M_99 rfl rfl ⟨Nat.le_of_ble_eq_true rfl, Nat.le_of_ble_eq_true rfl⟩) rfl hl.1 rfl (lv_room (Nat.le_of_ble_eq_true rfl)) d_M_ask_81 ⟨Nat.zero_le _, Nat.zero_le _⟩ ?_
        refine lv_topl (fun x81 ex81 => ?_)
        rw [v78, v80] at ex81
        have hgl : Nat.gcd A.natAbs B.natAbs ≤ 1073741824 := gcd_le' (by have := hz.1; omega) (by have := hz.2.1; omega)
        have t81 : x81.toInt.natAbs = Nat.gcd A.natAbs B.natAbs := by rw [ex81, pk_lT (by omega)]; rfl
        refine lv_iload_n hx hb d_M_ask_84 rfl (lv_at hl 4 rfl) ?_
        refine lv_i2l hx hb d_M_ask_85 rfl ?_
        refine lv_topl (fun x85 ex85 => ?_)
        have v85 := tC x85 ex85
        have hz3 := hz.2.2
        refine pr_call (As := [.long x81, .long x85]) (rest := []) hx hb hml hown hts (cm_common l (x := x81) (y := x85) (by omega) (by omega)) (w_M_common_cw hts k_M_99 rfl rfl ⟨Nat.le_of_ble_eq_true rfl, Nat.le_of_ble_eq_true rfl⟩) rfl hl.1 rfl (lv_room (Nat.le_of_ble_eq_true rfl)) d_M_ask_86 ⟨Nat.zero_le _, Nat.zero_le _⟩ ?_
        refine lv_topl (fun x86 ex86 => ?_)
        rw [t81, v85] at ex86
        have hgl2 : Nat.gcd (Nat.gcd A.natAbs B.natAbs) C.natAbs ≤ 1073741824 := gcd_le' hgl (by omega)
        refine lv_lconst (v := 1) hx hb d_M_ask_89 (by decide) ?_
        refine W.lcmp hx hb d_M_ask_90 ?_
        refine lv_if_ne (tgt := 98) hx hb d_M_ask_91 (by decide) (fun c91 => ?_) (fun c91 => ?_)
        · have h91 : ¬ akOk d A B C := fun q => c91 ((lg_cmp_eq _ _).mpr (by rw [ex86, q.2.2]; rfl))
          refine lv_iconst (v := 0) hx hb d_M_ask_98 (by decide) ?_
          exact E99 0 _ _ ls (Or.inr ⟨rfl, h91⟩) hU (lv_sub hl [1, 2, 3, 4] rfl)
        · have h91 : Nat.gcd (Nat.gcd A.natAbs B.natAbs) C.natAbs = 1 := by
            have q := (lg_cmp_eq _ _).mp c91
            rw [ex86, show (1 : Int64) = lN 1 from rfl, pk_lEQ (by omega) (by decide)] at q
            exact q
          refine lv_iconst (v := 1) hx hb d_M_ask_94 (by decide) ?_
          refine lv_goto (tgt := 99) hx hb d_M_ask_95 (by decide) ?_
          exact E99 1 _ _ ls (Or.inl ⟨rfl, hz, h74, h91⟩) hU (lv_sub hl [1, 2, 3, 4] rfl)
  have L1 : (-1073741824 : Int64).toInt = -1073741824 := rfl
  have L2 : (1073741824 : Int64).toInt = 1073741824 := rfl
  refine lv_iload_n hx hb d_M_ask_0 rfl (lv_at hl 1 rfl) ?_
  refine lv_i2l hx hb d_M_ask_1 rfl ?_
  refine lv_topl (fun x1 ex1 => ?_)
  refine lv_ldc2 (v := (-1073741824)) hx hb hown (hts _ k_M_95) d_M_ask_2 ?_
  refine lv_ldc2 (v := 1073741824) hx hb hown (hts _ k_M_97) d_M_ask_5 ?_
  refine pr_call (As := [.long x1, .long (-1073741824), .long 1073741824]) (rest := []) hx hb hml hown hts (cm_in l x1 (-1073741824) 1073741824) (w_M_in_cw hts k_M_88 rfl rfl ⟨Nat.le_of_ble_eq_true rfl, Nat.le_of_ble_eq_true rfl⟩) rfl hl.1 rfl (lv_room (Nat.le_of_ble_eq_true rfl)) d_M_ask_8 ⟨Nat.zero_le _, Nat.zero_le _⟩ ?_
  refine lv_topi (fun x8 ex8 => ?_)
  rw [tA x1 ex1, L1, L2] at ex8
  refine lv_if_eq (tgt := 46) hx hb d_M_ask_11 (by decide) (fun c11 => ?_) (fun c11 => ?_)
  · have h11 : ¬ szOk A B C := fun q => by rw [ex8, if_pos q.1] at c11; exact absurd c11 (by decide)
    refine lv_iconst (v := 0) hx hb d_M_ask_46 (by decide) ?_
    exact E47 0 _ _ ls (Or.inr ⟨rfl, h11⟩) hU hl
  · have h11 := Classical.byContradiction fun q => c11 (by rw [ex8, if_neg q])
    refine lv_iload_n hx hb d_M_ask_14 rfl (lv_at hl 2 rfl) ?_
    refine lv_i2l hx hb d_M_ask_15 rfl ?_
    refine lv_topl (fun x15 ex15 => ?_)
    refine lv_ldc2 (v := (-1073741824)) hx hb hown (hts _ k_M_95) d_M_ask_16 ?_
    refine lv_ldc2 (v := 1073741824) hx hb hown (hts _ k_M_97) d_M_ask_19 ?_
    refine pr_call (As := [.long x15, .long (-1073741824), .long 1073741824]) (rest := []) hx hb hml hown hts (cm_in l x15 (-1073741824) 1073741824) (w_M_in_cw hts k_M_88 rfl rfl ⟨Nat.le_of_ble_eq_true rfl, Nat.le_of_ble_eq_true rfl⟩) rfl hl.1 rfl (lv_room (Nat.le_of_ble_eq_true rfl)) d_M_ask_22 ⟨Nat.zero_le _, Nat.zero_le _⟩ ?_
    refine lv_topi (fun x22 ex22 => ?_)
    rw [tB9 x15 ex15, L1, L2] at ex22
    refine lv_if_eq (tgt := 46) hx hb d_M_ask_25 (by decide) (fun c25 => ?_) (fun c25 => ?_)
    · have h25 : ¬ szOk A B C := fun q => by rw [ex22, if_pos q.2.1] at c25; exact absurd c25 (by decide)
      refine lv_iconst (v := 0) hx hb d_M_ask_46 (by decide) ?_
      exact E47 0 _ _ ls (Or.inr ⟨rfl, h25⟩) hU hl
    · have h25 := Classical.byContradiction fun q => c25 (by rw [ex22, if_neg q])
      refine lv_iload_n hx hb d_M_ask_28 rfl (lv_at hl 3 rfl) ?_
      refine lv_i2l hx hb d_M_ask_29 rfl ?_
      refine lv_topl (fun x29 ex29 => ?_)
      refine lv_ldc2 (v := (-1073741824)) hx hb hown (hts _ k_M_95) d_M_ask_30 ?_
      refine lv_ldc2 (v := 1073741824) hx hb hown (hts _ k_M_97) d_M_ask_33 ?_
      refine pr_call (As := [.long x29, .long (-1073741824), .long 1073741824]) (rest := []) hx hb hml hown hts (cm_in l x29 (-1073741824) 1073741824) (w_M_in_cw hts k_M_88 rfl rfl ⟨Nat.le_of_ble_eq_true rfl, Nat.le_of_ble_eq_true rfl⟩) rfl hl.1 rfl (lv_room (Nat.le_of_ble_eq_true rfl)) d_M_ask_36 ⟨Nat.zero_le _, Nat.zero_le _⟩ ?_
      refine lv_topi (fun x36 ex36 => ?_)
      rw [tC x29 ex29, L1, L2] at ex36
      refine lv_if_eq (tgt := 46) hx hb d_M_ask_39 (by decide) (fun c39 => ?_) (fun c39 => ?_)
      · have h39 : ¬ szOk A B C := fun q => by rw [ex36, if_pos q.2.2] at c39; exact absurd c39 (by decide)
        refine lv_iconst (v := 0) hx hb d_M_ask_46 (by decide) ?_
        exact E47 0 _ _ ls (Or.inr ⟨rfl, h39⟩) hU hl
      · have h39 := Classical.byContradiction fun q => c39 (by rw [ex36, if_neg q])
        refine lv_iconst (v := 1) hx hb d_M_ask_42 (by decide) ?_
        refine lv_goto (tgt := 47) hx hb d_M_ask_43 (by decide) ?_
        exact E47 1 _ _ ls (Or.inl ⟨rfl, h11, h25, h39⟩) hU hl
