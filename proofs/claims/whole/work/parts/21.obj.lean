/-! UnitFinder: the automorph, the units below 0 -/
/-- nothing has changed but numbers 2 .. 5 -/
def sP (g g2 : St) : Prop := g2.1 = g.1 ∧ g2.2.1 = g.2.1 ∧ g2.2.2.1 = g.2.2.1 ∧ ∀ j, (j < 2 ∨ 5 < j) → g2.2.2.2 j = g.2.2.2 j
theorem sP.rf (g : St) : sP g g := ⟨rfl, rfl, rfl, fun _ _ => rfl⟩
theorem sP.tr {a b c : St} (h : sP a b) (k : sP b c) : sP a c := ⟨k.1.trans h.1, k.2.1.trans h.2.1, k.2.2.1.trans h.2.2.1, fun j q => (k.2.2.2 j q).trans (h.2.2.2 j q)⟩
theorem sP_G (g : St) {i : Nat} (b : BS) (h1 : 2 ≤ i) (h2 : i ≤ 5) : sP g (sG g i b) := ⟨rfl, rfl, rfl, fun j q => sG_n g b (by omega)⟩
/-- the four numbers of an automorph, as the class makes them of t, u (two numbers below MM) and a form -/
def amX (u : Nat) (k : Int) : Nat := k.natAbs * u % MM
def amT (u : Nat) (k : Int) : Int := if k < 0 then -(amX u k : Int) else (amX u k : Int)
def amD (t u : Nat) (b : Int) : Int := if t < amX u b then -(((amX u b - t) / 2 : Nat) : Int) else (((t - amX u b) / 2 : Nat) : Int)
def amS (t u : Nat) (b : Int) : Int := ((((t + amX u b) % MM) / 2 : Nat) : Int)
theorem bz_T {b : BS} {u : Nat} {k : Int} (h1 : b.2.1 = if k < 0 then 1 else 0) (h2 : bv b = amX u k) : bz b = amT u k := by
  unfold bz amT
  by_cases q : k < 0
  · rw [if_pos q] at h1 ⊢
    rw [if_neg (by rw [h1]; decide), h2]
  · rw [if_neg q] at h1 ⊢
    rw [if_pos h1, h2]
theorem amX_lt (u : Nat) (k : Int) : amX u k < MM := Nat.mod_lt _ (pB 512)
theorem neg_lt0 (x : Int32) (h : x.toInt ≠ -2147483648) : (-x).toInt = -x.toInt := Jvm.Kit.i32_neg h
set_option maxHeartbeats 4000000 in
set_option maxRecDepth 100000 in
theorem c_makeAutomorph (l : Launch) (z : ZZ) (sz : Nat) (g : St) (h0 : bOk (g.2.2.2 0)) (h1 : bOk (g.2.2.2 1)) (hb0 : (g.2.2.2 0).2.1 = 0) (hb1 : (g.2.2.2 1).2.1 = 0) {a b c0 : Int32} (hbr : b.toInt.natAbs < 2 ^ 31) (hcr : c0.toInt.natAbs < 2 ^ 31) : Met l y_U_makeAutomorph (zw y_U_makeAutomorph b_U_makeAutomorph 6 none) { frames := 2, cells := 0, slots := 0, locals := 51 } (va_Pc [.ref (mA z), .int a, .int b, .int c0] (zI z g sz)) (va_Qv (fun g2 => sP g g2 ∧ bOk (g2.2.2.2 2) ∧ bOk (g2.2.2.2 3) ∧ bOk (g2.2.2.2 4) ∧ bOk (g2.2.2.2 5) ∧ bz (g2.2.2.2 2) = (if b.toInt < 0 then amS (bv (g.2.2.2 0)) (bv (g.2.2.2 1)) b.toInt else amD (bv (g.2.2.2 0)) (bv (g.2.2.2 1)) b.toInt) ∧ bz (g2.2.2.2 3) = amT (bv (g.2.2.2 1)) (-c0.toInt) ∧ bz (g2.2.2.2 4) = amT (bv (g.2.2.2 1)) a.toInt ∧ bz (g2.2.2.2 5) = (if b.toInt < 0 then amD (bv (g.2.2.2 0)) (bv (g.2.2.2 1)) b.toInt else amS (bv (g.2.2.2 0)) (bv (g.2.2.2 1)) b.toInt)) (zO z sz) (zA z sz)) 0 0 (zA z sz) := by
  refine z_ofW (by decide) (Nat.le_of_ble_eq_true rfl) (fun p e s m below meth c hx hb hr hml hown hts hlocks hname hsz hN ls hU hl => ?_)
  have hl : lv_has ls 6 [(0, .ref (mA z)), (1, .int a), (2, .int b), (3, .int c0)] := hl
  have E : ∀ (P N : Nat) (g1 : St) (H : Heap) (locs : List Loc) (ls : Array Slot), (P = 2 ∧ N = 5 ∧ b.toInt < 0 ∨ P = 5 ∧ N = 2 ∧ ¬ b.toInt < 0) → sP g g1 → bOk (g1.2.2.2 3) → bOk (g1.2.2.2 4) → bz (g1.2.2.2 3) = amT (bv (g.2.2.2 1)) (-c0.toInt) → bz (g1.2.2.2 4) = amT (bv (g.2.2.2 1)) a.toInt → Ws z g1 s.heap H locs s → lv_has ls 6 [(0, .ref (mA z)), (1, .int a), (2, .int b), (3, .int c0), (4, .ref (oA z P)), (5, .ref (oA z N))] → W p l e ({ frames := 2, cells := 0, slots := 0, locals := 51 } : Room) s m ([.ref (mA z), .int a, .int b, .int c0] : List Value).toArray below meth c H locs 0 0 (MQ below (va_Qv (fun g2 => sP g g2 ∧ bOk (g2.2.2.2 2) ∧ bOk (g2.2.2.2 3) ∧ bOk (g2.2.2.2 4) ∧ bOk (g2.2.2.2 5) ∧ bz (g2.2.2.2 2) = (if b.toInt < 0 then amS (bv (g.2.2.2 0)) (bv (g.2.2.2 1)) b.toInt else amD (bv (g.2.2.2 0)) (bv (g.2.2.2 1)) b.toInt) ∧ bz (g2.2.2.2 3) = amT (bv (g.2.2.2 1)) (-c0.toInt) ∧ bz (g2.2.2.2 4) = amT (bv (g.2.2.2 1)) a.toInt ∧ bz (g2.2.2.2 5) = (if b.toInt < 0 then amD (bv (g.2.2.2 0)) (bv (g.2.2.2 1)) b.toInt else amS (bv (g.2.2.2 0)) (bv (g.2.2.2 1)) b.toInt)) (zO z sz) (zA z sz)) ([.ref (mA z), .int a, .int b, .int c0] : List Value).toArray s 0 0 (zA z sz)) (F0 m 59 ls []) := by
    intro P N g1 H locs ls hPN hs hok3 hok4 hz3 hz4 hU hl
    have hP : P < 10 := by omega
    have hN1 : N < 10 := by omega
    have hNP : N ≠ P := by omega
    have q0 : g1.2.2.2 0 = g.2.2.2 0 := hs.2.2.2 0 (by omega)
    have q1 : g1.2.2.2 1 = g.2.2.2 1 := hs.2.2.2 1 (by omega)
    refine lv_aload hx hb d_U_makeAutomorph_59 (lv_at hl 4 rfl) ?_
    refine lv_aload_n hx hb d_U_makeAutomorph_61 rfl (lv_at hl 0 rfl) ?_
    refine va_get (D := z.1) (ci := 0) (v := .ref (oA z 1)) (C := R_U) (T := F_U) (N := 11) hx hb hts in_U hown hU.2.1 hU.1 0 rfl rfl 1 (by decide) (hts _ k_U_16) (fun _ h9 => h9) rfl d_U_makeAutomorph_62 ?_
    refine lv_iload_n hx hb d_U_makeAutomorph_65 rfl (lv_at hl 2 rfl) ?_
    refine va_mabs hx hb (hml.trans hl.1.symm) hown (hts _ k_U_133) (hts _ q_abs_st) (hts _ q_math) (hts _ q_abs_co) (Nat.le_of_ble_eq_true rfl) (Nat.le_of_ble_eq_true rfl) (Nat.zero_le _) (Nat.zero_le _) d_U_makeAutomorph_66 ?_
    refine lv_topi (fun x66 ex66 => ?_)
    have e66 : x66 = nI b.toInt.natAbs := by rw [ex66]; exact abs_nI hbr
    have t66 : x66.toInt = (b.toInt.natAbs : Int) := by rw [e66, nI_toInt hbr]
    refine z_callv (z_run (As := [.ref (oA z 1), .int x66]) (rest := []) hx hb hml hown hts hU hN (c_setTimes l z _ g1 hP (j := 1) (by decide) (by omega) (by rw [q1]; exact h1) x66) (w_B_setTimes_cw hts k_U_175 rfl rfl ⟨Nat.le_of_ble_eq_true rfl, Nat.le_of_ble_eq_true rfl⟩) (z_recvB hU hP) rfl hl.1 rfl (lv_room (Nat.le_of_ble_eq_true rfl)) d_U_makeAutomorph_69 ⟨Nat.zero_le _, Nat.zero_le _⟩) hU (fun g69 H locs hp hU => ?_)
    obtain ⟨bp, rfl, k1, k2, k3⟩ := hp
    rw [q1, hb1, if_neg (show ¬ x66 < 0 by rw [Int32.lt_iff_toInt_lt, t66, Int32.toInt_zero]; omega), if_pos rfl] at k2
    rw [q1, t66, Int.natAbs_natCast] at k3
    have k3 : bv bp = amX (bv (g.2.2.2 1)) b.toInt := k3
    refine lv_aload hx hb d_U_makeAutomorph_72 (lv_at hl 5 rfl) ?_
    refine lv_aload_n hx hb d_U_makeAutomorph_74 rfl (lv_at hl 0 rfl) ?_
    refine va_get (D := z.1) (ci := 0) (v := .ref (oA z 0)) (C := R_U) (T := F_U) (N := 11) hx hb hts in_U hown hU.2.1 hU.1 0 rfl rfl 0 (by decide) (hts _ k_U_10) (fun _ h9 => h9) rfl d_U_makeAutomorph_75 ?_
    refine lv_aload hx hb d_U_makeAutomorph_78 (lv_at hl 4 rfl) ?_
    refine z_callv (z_run (As := [.ref (oA z 0), .ref (oA z P)]) (rest := []) hx hb hml hown hts hU hN (c_setDifference l z _ (sG g1 P bp) hN1 (j := 0) (by decide) hP (by omega) (by omega) (by rw [sG_n _ _ (by omega), q0]; exact h0) (by rw [sG_s]; exact k1)) (w_B_setDifference_cw hts k_U_179 rfl rfl ⟨Nat.le_of_ble_eq_true rfl, Nat.le_of_ble_eq_true rfl⟩) (z_recvB hU hN1) rfl hl.1 rfl (lv_room (Nat.le_of_ble_eq_true rfl)) d_U_makeAutomorph_80 ⟨Nat.zero_le _, Nat.zero_le _⟩) hU (fun g80 H locs hp hU => ?_)
    obtain ⟨bn, rfl, m1, m2, m3⟩ := hp
    rw [sG_n _ _ (show 0 ≠ P by omega), sG_s, q0, k3] at m2 m3
    refine lv_aload hx hb d_U_makeAutomorph_83 (lv_at hl 4 rfl) ?_
    refine lv_aload_n hx hb d_U_makeAutomorph_85 rfl (lv_at hl 0 rfl) ?_
    refine va_get (D := z.1) (ci := 0) (v := .ref (oA z 0)) (C := R_U) (T := F_U) (N := 11) hx hb hts in_U hown hU.2.1 hU.1 0 rfl rfl 0 (by decide) (hts _ k_U_10) (fun _ h9 => h9) rfl d_U_makeAutomorph_86 ?_
    refine lv_aload hx hb d_U_makeAutomorph_89 (lv_at hl 4 rfl) ?_
    obtain ⟨n0, hn0, hn01, -, -⟩ := id h0
    obtain ⟨np, hnp, hnp1, -, -⟩ := id k1
    refine z_callv (z_run (As := [.ref (oA z 0), .ref (oA z P)]) (rest := []) hx hb hml hown hts hU hN (c_setSum l z _ (sG (sG g1 P bp) N bn) hP (j := 0) (by decide) (by omega) hn0 (by rw [sG_n _ _ (by omega), sG_n _ _ (by omega), q0]; exact hn01) hnp (by rw [sG_n _ _ (by omega), sG_s]; exact hnp1)) (w_B_setSum_cw hts k_U_182 rfl rfl ⟨Nat.le_of_ble_eq_true rfl, Nat.le_of_ble_eq_true rfl⟩) (z_recvB hU hP) rfl hl.1 rfl (lv_room (Nat.le_of_ble_eq_true rfl)) d_U_makeAutomorph_91 ⟨Nat.zero_le _, Nat.zero_le _⟩) hU (fun g91 H locs hp hU => ?_)
    obtain ⟨bq, rfl, o1, o2, o3⟩ := hp
    rw [sG_n _ _ (show 0 ≠ N by omega), sG_n _ _ (show 0 ≠ P by omega), sG_n _ _ (show P ≠ N by omega), sG_s, q0, ← bv_of hn0 hn01, ← bv_of hnp hnp1, k3] at o3
    refine lv_aload hx hb d_U_makeAutomorph_94 (lv_at hl 5 rfl) ?_
    refine z_callv (z_run (As := []) (rest := []) hx hb hml hown hts hU hN (c_halve l z _ (sG (sG (sG g1 P bp) N bn) P bq) hN1 (by rw [sG_n _ _ hNP, sG_s]; exact m1)) (w_B_halve_cw hts k_U_185 rfl rfl ⟨Nat.le_of_ble_eq_true rfl, Nat.le_of_ble_eq_true rfl⟩) (z_recvB hU hN1) rfl hl.1 rfl (lv_room (Nat.le_of_ble_eq_true rfl)) d_U_makeAutomorph_96 ⟨Nat.zero_le _, Nat.zero_le _⟩) hU (fun g96 H locs hp hU => ?_)
    obtain ⟨bn2, rfl, r1, r2, r3⟩ := hp
    rw [sG_n _ _ hNP, sG_s] at r2 r3
    refine lv_aload hx hb d_U_makeAutomorph_99 (lv_at hl 4 rfl) ?_
    refine z_callv (z_run (As := []) (rest := []) hx hb hml hown hts hU hN (c_halve l z _ (sG (sG (sG (sG g1 P bp) N bn) P bq) N bn2) hP (by rw [sG_n _ _ (by omega), sG_s]; exact o1)) (w_B_halve_cw hts k_U_185 rfl rfl ⟨Nat.le_of_ble_eq_true rfl, Nat.le_of_ble_eq_true rfl⟩) (z_recvB hU hP) rfl hl.1 rfl (lv_room (Nat.le_of_ble_eq_true rfl)) d_U_makeAutomorph_101 ⟨Nat.zero_le _, Nat.zero_le _⟩) hU (fun g101 H locs hp hU => ?_)
    obtain ⟨bq2, rfl, s1, s2, s3⟩ := hp
    rw [sG_n _ _ (show P ≠ N by omega), sG_s] at s2 s3
    obtain ⟨g9, eg9⟩ : ∃ y, y = sG (sG (sG (sG (sG g1 P bp) N bn) P bq) N bn2) P bq2 := ⟨_, rfl⟩
    have w3 : g9.2.2.2 3 = g1.2.2.2 3 := by rw [eg9]; repeat rw [sG_n _ _ (by omega)]
    have w4 : g9.2.2.2 4 = g1.2.2.2 4 := by rw [eg9]; repeat rw [sG_n _ _ (by omega)]
    have wP : g9.2.2.2 P = bq2 := by rw [eg9, sG_s]
    have wN : g9.2.2.2 N = bn2 := by rw [eg9, sG_n _ _ hNP, sG_s]
    have zS : bz bq2 = amS (bv (g.2.2.2 0)) (bv (g.2.2.2 1)) b.toInt := by
      rw [bz, if_pos (by rw [s2, o2]), s3, o3]
      rfl
    have zD : bz bn2 = amD (bv (g.2.2.2 0)) (bv (g.2.2.2 1)) b.toInt := by
      unfold amD bz
      rw [r2, m2, r3, m3]
      by_cases q : bv (g.2.2.2 0) < amX (bv (g.2.2.2 1)) b.toInt
      · rw [if_pos q, if_pos q, if_pos q, if_neg (by decide)]
      · rw [if_neg q, if_neg q, if_neg q, if_pos rfl]
    have hsP : sP g g9 := hs.tr (by rw [eg9]; exact ((((sP_G _ _ (by omega) (by omega)).tr (sP_G _ _ (by omega) (by omega))).tr (sP_G _ _ (by omega) (by omega))).tr (sP_G _ _ (by omega) (by omega))).tr (sP_G _ _ (by omega) (by omega)))
    rw [← eg9] at hU
    refine z_vret hx hb hr hlocks hsz hU ⟨hsP, ?_⟩ d_U_makeAutomorph_104
    rcases hPN with ⟨rfl, rfl, hb⟩ | ⟨rfl, rfl, hb⟩
    · exact ⟨by rw [wP]; exact s1, by rw [w3]; exact hok3, by rw [w4]; exact hok4, by rw [wN]; exact r1, by rw [wP, if_pos hb]; exact zS, by rw [w3]; exact hz3, by rw [w4]; exact hz4, by rw [wN, if_pos hb]; exact zD⟩
    · exact ⟨by rw [wN]; exact r1, by rw [w3]; exact hok3, by rw [w4]; exact hok4, by rw [wP]; exact s1, by rw [wN, if_neg hb]; exact zD, by rw [w3]; exact hz3, by rw [w4]; exact hz4, by rw [wP, if_neg hb]; exact zS⟩
  refine lv_aload_n hx hb d_U_makeAutomorph_0 rfl (lv_at hl 0 rfl) ?_
  refine va_get (D := z.1) (ci := 0) (v := .ref (oA z 3)) (C := R_U) (T := F_U) (N := 11) hx hb hts in_U hown hU.2.1 hU.1 0 rfl rfl 3 (by decide) (hts _ k_U_22) (fun _ h9 => h9) rfl d_U_makeAutomorph_1 ?_
  refine lv_aload_n hx hb d_U_makeAutomorph_4 rfl (lv_at hl 0 rfl) ?_
  refine va_get (D := z.1) (ci := 0) (v := .ref (oA z 1)) (C := R_U) (T := F_U) (N := 11) hx hb hts in_U hown hU.2.1 hU.1 0 rfl rfl 1 (by decide) (hts _ k_U_16) (fun _ h9 => h9) rfl d_U_makeAutomorph_5 ?_
  refine lv_iload_n hx hb d_U_makeAutomorph_8 rfl (lv_at hl 3 rfl) ?_
  refine lv_ineg hx hb d_U_makeAutomorph_9 ?_
  refine lv_topi (fun x9 ex9 => ?_)
  have t9 : x9.toInt = -c0.toInt := by rw [ex9]; exact Jvm.Kit.i32_neg (by omega)
  refine z_callv (z_run (As := [.ref (oA z 1), .int x9]) (rest := []) hx hb hml hown hts hU hN (c_setTimes l z _ g (i := 3) (by decide) (j := 1) (by decide) (by decide) h1 x9) (w_B_setTimes_cw hts k_U_175 rfl rfl ⟨Nat.le_of_ble_eq_true rfl, Nat.le_of_ble_eq_true rfl⟩) (z_recvB hU (by decide)) rfl hl.1 rfl (lv_room (Nat.le_of_ble_eq_true rfl)) d_U_makeAutomorph_10 ⟨Nat.zero_le _, Nat.zero_le _⟩) hU (fun g10 H locs hp hU => ?_)
  obtain ⟨b3, rfl, k1, k2, k3⟩ := hp
  rw [hb1] at k2
  rw [t9] at k3
  refine lv_aload_n hx hb d_U_makeAutomorph_13 rfl (lv_at hl 0 rfl) ?_
  refine va_get (D := z.1) (ci := 0) (v := .ref (oA z 4)) (C := R_U) (T := F_U) (N := 11) hx hb hts in_U hown hU.2.1 hU.1 0 rfl rfl 4 (by decide) (hts _ k_U_25) (fun _ h9 => h9) rfl d_U_makeAutomorph_14 ?_
  refine lv_aload_n hx hb d_U_makeAutomorph_17 rfl (lv_at hl 0 rfl) ?_
  refine va_get (D := z.1) (ci := 0) (v := .ref (oA z 1)) (C := R_U) (T := F_U) (N := 11) hx hb hts in_U hown hU.2.1 hU.1 0 rfl rfl 1 (by decide) (hts _ k_U_16) (fun _ h9 => h9) rfl d_U_makeAutomorph_18 ?_
  refine lv_iload_n hx hb d_U_makeAutomorph_21 rfl (lv_at hl 1 rfl) ?_
  refine z_callv (z_run (As := [.ref (oA z 1), .int a]) (rest := []) hx hb hml hown hts hU hN (c_setTimes l z _ (sG g 3 b3) (i := 4) (by decide) (j := 1) (by decide) (by decide) (by rw [sG_n _ _ (by decide)]; exact h1) a) (w_B_setTimes_cw hts k_U_175 rfl rfl ⟨Nat.le_of_ble_eq_true rfl, Nat.le_of_ble_eq_true rfl⟩) (z_recvB hU (by decide)) rfl hl.1 rfl (lv_room (Nat.le_of_ble_eq_true rfl)) d_U_makeAutomorph_22 ⟨Nat.zero_le _, Nat.zero_le _⟩) hU (fun g22 H locs hp hU => ?_)
  obtain ⟨b4, rfl, m1, m2, m3⟩ := hp
  rw [sG_n _ _ (show (1 : Nat) ≠ 3 by decide)] at m2 m3
  rw [hb1] at m2
  have w3 : (sG (sG g 3 b3) 4 b4).2.2.2 3 = b3 := by rw [sG_n _ _ (by decide), sG_s]
  have w4 : (sG (sG g 3 b3) 4 b4).2.2.2 4 = b4 := sG_s _ _ _
  have z3 : bz b3 = amT (bv (g.2.2.2 1)) (-c0.toInt) := bz_T (by
    rw [k2]
    by_cases q : x9 < 0
    · rw [if_pos q, if_neg (by decide), if_pos]
      rw [Int32.lt_iff_toInt_lt, t9, Int32.toInt_zero] at q
      exact q
    · rw [if_neg q, if_pos rfl, if_neg]
      rw [Int32.lt_iff_toInt_lt, t9, Int32.toInt_zero] at q
      exact q) k3
  have z4 : bz b4 = amT (bv (g.2.2.2 1)) a.toInt := bz_T (by
    rw [m2]
    by_cases q : a < 0
    · rw [if_pos q, if_neg (by decide), if_pos]
      rw [Int32.lt_iff_toInt_lt, Int32.toInt_zero] at q
      exact q
    · rw [if_neg q, if_pos rfl, if_neg]
      rw [Int32.lt_iff_toInt_lt, Int32.toInt_zero] at q
      exact q) m3
  have hs : sP g (sG (sG g 3 b3) 4 b4) := (sP_G g b3 (by decide) (by decide)).tr (sP_G _ b4 (by decide) (by decide))
  refine lv_iload_n hx hb d_U_makeAutomorph_25 rfl (lv_at hl 2 rfl) ?_
  refine lv_if_ge (tgt := 36) hx hb d_U_makeAutomorph_26 (by decide) (fun c26 => ?_) (fun c26 => ?_)
  · have h26 : ¬ b.toInt < 0 := by
      rw [Int32.le_iff_toInt_le, Int32.toInt_zero] at c26
      omega
    refine lv_aload_n hx hb d_U_makeAutomorph_36 rfl (lv_at hl 0 rfl) ?_
    refine va_get (D := z.1) (ci := 0) (v := .ref (oA z 5)) (C := R_U) (T := F_U) (N := 11) hx hb hts in_U hown hU.2.1 hU.1 0 rfl rfl 5 (by decide) (hts _ k_U_28) (fun _ h9 => h9) rfl d_U_makeAutomorph_37 ?_
    refine lv_astore (lv' := [(4, .ref (oA z 5)), (0, .ref (mA z)), (1, .int a), (2, .int b), (3, .int c0)]) hx hb d_U_makeAutomorph_40 hl (by decide) rfl (fun ls hl => ?_)
    refine lv_iload_n hx hb d_U_makeAutomorph_42 rfl (lv_at hl 3 rfl) ?_
    refine lv_if_ge (tgt := 53) hx hb d_U_makeAutomorph_43 (by decide) (fun c43 => ?_) (fun c43 => ?_)
    · refine lv_aload_n hx hb d_U_makeAutomorph_53 rfl (lv_at hl 1 rfl) ?_
      refine va_get (D := z.1) (ci := 0) (v := .ref (oA z 2)) (C := R_U) (T := F_U) (N := 11) hx hb hts in_U hown hU.2.1 hU.1 0 rfl rfl 2 (by decide) (hts _ k_U_19) (fun _ h9 => h9) rfl d_U_makeAutomorph_54 ?_
      refine lv_astore (lv' := [(5, .ref (oA z 2)), (4, .ref (oA z 5)), (0, .ref (mA z)), (1, .int a), (2, .int b), (3, .int c0)]) hx hb d_U_makeAutomorph_57 hl (by decide) rfl (fun ls hl => ?_)
      exact E 5 2 _ _ _ ls (Or.inr ⟨rfl, rfl, h26⟩) hs (by rw [w3]; exact k1) (by rw [w4]; exact m1) (by rw [w3]; exact z3) (by rw [w4]; exact z4) hU (lv_sub hl [2, 3, 4, 5, 1, 0] rfl)
    · exact absurd c26 c43
  · have h26 : b.toInt < 0 := by
      rw [Int32.le_iff_toInt_le, Int32.toInt_zero] at c26
      omega
    refine lv_aload_n hx hb d_U_makeAutomorph_29 rfl (lv_at hl 0 rfl) ?_
    refine va_get (D := z.1) (ci := 0) (v := .ref (oA z 2)) (C := R_U) (T := F_U) (N := 11) hx hb hts in_U hown hU.2.1 hU.1 0 rfl rfl 2 (by decide) (hts _ k_U_19) (fun _ h9 => h9) rfl d_U_makeAutomorph_30 ?_
    refine lv_goto (tgt := 40) hx hb d_U_makeAutomorph_33 (by decide) ?_
    refine lv_astore (lv' := [(4, .ref (oA z 2)), (0, .ref (mA z)), (1, .int a), (2, .int b), (3, .int c0)]) hx hb d_U_makeAutomorph_40 hl (by decide) rfl (fun ls hl => ?_)
    refine lv_iload_n hx hb d_U_makeAutomorph_42 rfl (lv_at hl 3 rfl) ?_
    refine lv_if_ge (tgt := 53) hx hb d_U_makeAutomorph_43 (by decide) (fun c43 => ?_) (fun c43 => ?_)
    · exact absurd c43 c26
    · refine lv_aload_n hx hb d_U_makeAutomorph_46 rfl (lv_at hl 1 rfl) ?_
      refine va_get (D := z.1) (ci := 0) (v := .ref (oA z 5)) (C := R_U) (T := F_U) (N := 11) hx hb hts in_U hown hU.2.1 hU.1 0 rfl rfl 5 (by decide) (hts _ k_U_28) (fun _ h9 => h9) rfl d_U_makeAutomorph_47 ?_
      refine lv_goto (tgt := 57) hx hb d_U_makeAutomorph_50 (by decide) ?_
      refine lv_astore (lv' := [(5, .ref (oA z 5)), (4, .ref (oA z 2)), (0, .ref (mA z)), (1, .int a), (2, .int b), (3, .int c0)]) hx hb d_U_makeAutomorph_57 hl (by decide) rfl (fun ls hl => ?_)
      exact E 2 5 _ _ _ ls (Or.inl ⟨rfl, rfl, h26⟩) hs (by rw [w3]; exact k1) (by rw [w4]; exact m1) (by rw [w3]; exact z3) (by rw [w4]; exact z4) hU (lv_sub hl [2, 3, 4, 5, 1, 0] rfl)
