/-! UnitFinder$Big: products, copies, residues -/
set_option maxHeartbeats 4000000 in
set_option maxRecDepth 100000 in
theorem c_addRow (l : Launch) (z : ZZ) (sz : Nat) (g : St) {i j : Nat} (hi : i < 10) (hj : j < 10) (hij : j ≠ i) {n : Nat} (hn : n ≤ 512) (hn1 : (g.2.2.2 j).1 = nI n) {a : Nat} (ha : a < 512) {fac : Int64} (hfac : uN fac < 4294967296) : Met l y_B_addRow (zw y_B_addRow b_B_addRow 9 none) { frames := 1, cells := 0, slots := 0, locals := 23 } (va_Pc [.ref (oA z i), .long fac, .ref (oA z j), .int (nI a)] (zI z g sz)) (va_Qv (fun g2 => ∃ f, g2 = sW g i f ∧ (a + n < 512 → vl f (a + n + 1) = vl (g.2.2.2 i).2.2 (a + n) + uN fac * vl (g.2.2.2 j).2.2 n * 4294967296 ^ a ∧ ∀ q, a + n < q → f q = (g.2.2.2 i).2.2 q) ∧ (512 ≤ a + n → vl f 512 % MM = (vl (g.2.2.2 i).2.2 512 + uN fac * vl (g.2.2.2 j).2.2 (512 - a) * 4294967296 ^ a) % MM)) (zO z sz) (zA z sz)) 0 0 (zA z sz) := by
  refine z_ofW (by decide) (Nat.le_of_ble_eq_true rfl) (fun p e s m below meth c hx hb hr hml hown hts hlocks hname hsz hN ls hU hl => ?_)
  have hl : lv_has ls 9 [(0, .ref (oA z i)), (1, .long fac), (3, .ref (oA z j)), (4, .int (nI a))] := hl
  obtain ⟨F, eF⟩ : ∃ y, y = (g.2.2.2 j).2.2 := ⟨_, rfl⟩
  obtain ⟨G, eG⟩ : ∃ y, y = (g.2.2.2 i).2.2 := ⟨_, rfl⟩
  obtain ⟨T, eT⟩ : ∃ y, y = min (a + n) 512 := ⟨_, rfl⟩
  have K : ∀ (d q : Nat) (f : Nat → Int32) (cr : Int64) (H : Heap) (locs : List Loc) (ls : Array Slot), a + q + d = T → vl f (a + q) + uN cr * 4294967296 ^ (a + q) = vl G (a + q) + uN fac * vl F q * 4294967296 ^ a → uN cr < 4294967296 → (∀ t, a + q ≤ t → f t = G t) → Ws z (sW g i f) s.heap H locs s → lv_has ls 9 [(0, .ref (oA z i)), (1, .long fac), (3, .ref (oA z j)), (4, .int (nI a)), (5, .long cr), (7, .int (nI T)), (8, .int (nI (a + q)))] → W p l e ({ frames := 1, cells := 0, slots := 0, locals := 23 } : Room) s m ([.ref (oA z i), .long fac, .ref (oA z j), .int (nI a)] : List Value).toArray below meth c H locs 0 0 (MQ below (va_Qv (fun g2 => ∃ f, g2 = sW g i f ∧ (a + n < 512 → vl f (a + n + 1) = vl (g.2.2.2 i).2.2 (a + n) + uN fac * vl (g.2.2.2 j).2.2 n * 4294967296 ^ a ∧ ∀ q, a + n < q → f q = (g.2.2.2 i).2.2 q) ∧ (512 ≤ a + n → vl f 512 % MM = (vl (g.2.2.2 i).2.2 512 + uN fac * vl (g.2.2.2 j).2.2 (512 - a) * 4294967296 ^ a) % MM)) (zO z sz) (zA z sz)) ([.ref (oA z i), .long fac, .ref (oA z j), .int (nI a)] : List Value).toArray s 0 0 (zA z sz)) (F0 m 22 ls []) := by
    intro d
    induction d with
    | zero =>
      intro q f cr H locs ls hq hI hc hf hU hl
      have hq : a + q = T := by omega
      rw [hq] at hl hI hf
      refine lv_iload hx hb d_B_addRow_22 (lv_at hl 6 rfl) ?_
      refine lv_iload hx hb d_B_addRow_24 (lv_at hl 5 rfl) ?_
      refine lv_icmp_ge (tgt := 87) hx hb d_B_addRow_26 (by decide) (fun c26 => ?_) (fun c26 => ?_)
      · refine lv_iload hx hb d_B_addRow_87 (lv_at hl 5 rfl) ?_
        refine lv_sipush (v := 512) hx hb d_B_addRow_89 (by decide) ?_
        refine lv_icmp_ge (tgt := 105) hx hb d_B_addRow_92 (by decide) (fun c92 => ?_) (fun c92 => ?_)
        · have h92 : 512 ≤ T := (nI_leI (a := 512) (b := T) (by decide) (by omega)).mp c92
          have hT : T = 512 := by omega
          have hq2 : q = 512 - a := by omega
          subst eF eG
          exact z_vret hx hb hr hlocks hsz hU ⟨f, rfl, fun h => by omega, fun h => by
            rw [hT, hq2, ← MM_def] at hI
            rw [← hI, Nat.add_mul_mod_self_right]⟩ d_B_addRow_105
        · have h92 : T < 512 := Nat.lt_of_not_le (fun q => c92 ((nI_leI (a := 512) (b := T) (by decide) (by omega)).mpr q))
          have hT : T = a + n := by omega
          have hq2 : q = n := by omega
          subst eF eG
          have hin104 : vp_in (nI T) 512 := vp_in_nI h92 (by decide)
          refine lv_aload_n hx hb d_B_addRow_95 rfl (lv_at hl 0 rfl) ?_
          refine va_get (D := z.1) (ci := 2) (v := .ref (rA z i)) (C := R_B) (T := F_B) (N := 3) hx hb hts in_B hown hU.2.1 hU.1 (2 + 2 * i) (uw_o z (sW g i f) hi) rfl 0 (by decide) (hts _ k_B_9) (fun _ h9 => h9) rfl d_B_addRow_96 ?_
          refine lv_iload hx hb d_B_addRow_99 (lv_at hl 5 rfl) ?_
          refine lv_lload hx hb d_B_addRow_101 (lv_at hl 4 rfl) ?_
          refine lv_l2i hx hb d_B_addRow_103 rfl ?_
          refine lv_topi (fun x103 ex103 => ?_)
          refine z_iast hx hb hU hi hin104 d_B_addRow_104 (fun H locs hU => ?_)
          generalize eg104 : sW (sW g i f) i (upd ((sW g i f).2.2.2 i).2.2 (nI T).toNatClampNeg x103) = g104 at hU
          rw [← eg104, sW_sW, sW_s, nI_clamp (by omega)] at hU
          exact z_vret hx hb hr hlocks hsz hU ⟨_, rfl, fun h => ⟨by
            rw [← hT, vl_upds, ex103, wn_l2i, Nat.mod_eq_of_lt hc]
            rw [hq2] at hI
            exact hI, fun t ht => by rw [pk_un (by omega)]; exact hf t (by omega)⟩, fun h => by omega⟩ d_B_addRow_105
      · exact absurd (Int32.le_refl _) c26
    | succ d ih =>
      intro q f cr H locs ls hq hI hc hf hU hl
      refine lv_iload hx hb d_B_addRow_22 (lv_at hl 6 rfl) ?_
      refine lv_iload hx hb d_B_addRow_24 (lv_at hl 5 rfl) ?_
      refine lv_icmp_ge (tgt := 87) hx hb d_B_addRow_26 (by decide) (fun c26 => ?_) (fun c26 => ?_)
      · exact absurd c26 (nI_ge (by omega) (by omega))
      · refine lv_lload hx hb d_B_addRow_29 (lv_at hl 4 rfl) ?_
        refine lv_lload_n hx hb d_B_addRow_31 rfl (lv_at hl 1 rfl) ?_
        refine lv_aload_n hx hb d_B_addRow_32 rfl (lv_at hl 2 rfl) ?_
        refine va_get (D := z.1) (ci := 2) (v := .ref (rA z j)) (C := R_B) (T := F_B) (N := 3) hx hb hts in_B hown hU.2.1 hU.1 (2 + 2 * j) (uw_o z (sW g i f) hj) rfl 0 (by decide) (hts _ k_B_9) (fun _ h9 => h9) rfl d_B_addRow_33 ?_
        refine lv_iload hx hb d_B_addRow_36 (lv_at hl 6 rfl) ?_
        refine lv_iload hx hb d_B_addRow_38 (lv_at hl 3 rfl) ?_
        refine lv_isub hx hb d_B_addRow_40 ?_
        refine lv_topi (fun x40 ex40 => ?_)
        have e40 : x40 = nI q := by rw [ex40, pk_sub (by omega), Nat.add_sub_cancel_left]
        have hin41 : vp_in x40 512 := by rw [e40]; exact vp_in_nI (by omega) (by decide)
        have hin54 : vp_in (nI (a + q)) 512 := vp_in_nI (by omega) (by decide)
        have hin73 := hin54
        refine va_iald hx hb hU.2.1 hU.1 (3 + 2 * j) j (uw_w z (sW g i f) hj) (zty_a z hj) hin41 d_B_addRow_41 ?_
        refine lv_topi (fun x41 ex41 => ?_)
        refine lv_i2l hx hb d_B_addRow_42 rfl ?_
        refine lv_topl (fun x42 ex42 => ?_)
        refine lv_ldc2 (v := 4294967295) hx hb hown (hts _ k_B_39) d_B_addRow_43 ?_
        refine lv_land hx hb d_B_addRow_46 ?_
        refine lv_topl (fun x46 ex46 => ?_)
        refine lv_lmul hx hb d_B_addRow_47 ?_
        refine lv_topl (fun x47 ex47 => ?_)
        refine lv_aload_n hx hb d_B_addRow_48 rfl (lv_at hl 0 rfl) ?_
        refine va_get (D := z.1) (ci := 2) (v := .ref (rA z i)) (C := R_B) (T := F_B) (N := 3) hx hb hts in_B hown hU.2.1 hU.1 (2 + 2 * i) (uw_o z (sW g i f) hi) rfl 0 (by decide) (hts _ k_B_9) (fun _ h9 => h9) rfl d_B_addRow_49 ?_
        refine lv_iload hx hb d_B_addRow_52 (lv_at hl 6 rfl) ?_
        refine va_iald hx hb hU.2.1 hU.1 (3 + 2 * i) i (uw_w z (sW g i f) hi) (zty_a z hi) hin54 d_B_addRow_54 ?_
        refine lv_topi (fun x54 ex54 => ?_)
        refine lv_i2l hx hb d_B_addRow_55 rfl ?_
        refine lv_topl (fun x55 ex55 => ?_)
        refine lv_ldc2 (v := 4294967295) hx hb hown (hts _ k_B_39) d_B_addRow_56 ?_
        refine lv_land hx hb d_B_addRow_59 ?_
        refine lv_topl (fun x59 ex59 => ?_)
        refine lv_ladd hx hb d_B_addRow_60 ?_
        refine lv_topl (fun x60 ex60 => ?_)
        refine lv_ladd hx hb d_B_addRow_61 ?_
        refine lv_topl (fun x61 ex61 => ?_)
        refine lv_lstore (lv' := [(5, .long x61), (0, .ref (oA z i)), (1, .long fac), (3, .ref (oA z j)), (4, .int (nI a)), (7, .int (nI T)), (8, .int (nI (a + q)))]) hx hb d_B_addRow_62 hl (by decide) rfl (fun ls hl => ?_)
        refine lv_aload_n hx hb d_B_addRow_64 rfl (lv_at hl 1 rfl) ?_
        refine va_get (D := z.1) (ci := 2) (v := .ref (rA z i)) (C := R_B) (T := F_B) (N := 3) hx hb hts in_B hown hU.2.1 hU.1 (2 + 2 * i) (uw_o z (sW g i f) hi) rfl 0 (by decide) (hts _ k_B_9) (fun _ h9 => h9) rfl d_B_addRow_65 ?_
        refine lv_iload hx hb d_B_addRow_68 (lv_at hl 6 rfl) ?_
        refine lv_lload hx hb d_B_addRow_70 (lv_at hl 0 rfl) ?_
        refine lv_l2i hx hb d_B_addRow_72 rfl ?_
        refine lv_topi (fun x72 ex72 => ?_)
        refine z_iast hx hb hU hi hin73 d_B_addRow_73 (fun H locs hU => ?_)
        generalize eg73 : sW (sW g i f) i (upd ((sW g i f).2.2.2 i).2.2 (nI (a + q)).toNatClampNeg x72) = g73 at hU
        refine lv_lload hx hb d_B_addRow_74 (lv_at hl 0 rfl) ?_
        refine lv_bipush (v := 32) hx hb d_B_addRow_76 (by decide) ?_
        refine lv_lushr hx hb d_B_addRow_78 rfl ?_
        refine lv_topl (fun x78 ex78 => ?_)
        refine lv_lstore (lv' := [(5, .long x78), (0, .ref (oA z i)), (1, .long fac), (3, .ref (oA z j)), (4, .int (nI a)), (7, .int (nI T)), (8, .int (nI (a + q)))]) hx hb d_B_addRow_79 hl (by decide) rfl (fun ls hl => ?_)
        obtain ⟨x81, ex81⟩ : ∃ y : Int32, y = (nI (a + q)) + Int32.ofInt 1 := ⟨_, rfl⟩
        refine lv_iinc (v := x81) (lv' := [(8, .int x81), (5, .long x78), (0, .ref (oA z i)), (1, .long fac), (3, .ref (oA z j)), (4, .int (nI a)), (7, .int (nI T))]) hx hb d_B_addRow_81 hl (k := 6) rfl (by rw [ex81]) (by decide) rfl (fun ls hl => ?_)
        refine lv_goto (tgt := 22) hx hb d_B_addRow_84 (by decide) ?_
        have a1 : x41 = F q := by rw [ex41, sW_n _ _ hij, e40, nI_clamp (by omega), eF]
        have a2 : x54 = G (a + q) := by
          rw [ex54, sW_s, nI_clamp (by omega)]
          exact hf _ (Nat.le_refl _)
        have u46 : uN x46 = wn (F q) := by rw [ex46, ex42, a1]; exact uN_w _
        have u59 : uN x59 = wn (G (a + q)) := by rw [ex59, ex55, a2]; exact uN_w _
        have w1 := wn_lt (F q)
        have w2 := wn_lt (G (a + q))
        have b47 : uN fac * wn (F q) ≤ 4294967295 * 4294967295 := Nat.mul_le_mul (by omega) (by omega)
        have u47 : uN x47 = uN fac * wn (F q) := by
          rw [ex47, uN_mul', u46]
          rw [u46]; omega
        have u60 : uN x60 = uN fac * wn (F q) + wn (G (a + q)) := by
          rw [ex60, uN_add', u47, u59]
          rw [u47, u59]; omega
        have u61 : uN x61 = uN cr + (uN fac * wn (F q) + wn (G (a + q))) := by
          rw [ex61, uN_add', u60]
          rw [u60]; omega
        have u78 : uN x78 = uN x61 / 4294967296 := by rw [ex78]; exact uN_s32 _
        rw [← eg73, sW_sW, sW_s, nI_clamp (by omega)] at hU
        rw [ex81, show Int32.ofInt 1 = 1 from rfl, nI_1] at hl
        exact ih (q + 1) _ x78 _ _ ls (by omega) (by
          rw [← Nat.add_assoc, vl_upds, ex72, wn_l2i, u78, Nat.pow_succ, vl_s, vl_s]
          have h9 := vl_stepA (uN x61) (X := uN fac * vl F q * 4294967296 ^ a) (Y := vl G (a + q)) (hI.trans (Nat.add_comm _ _)) u61
          have h8 : uN fac * (vl F q + wn (F q) * 4294967296 ^ q) * 4294967296 ^ a = uN fac * vl F q * 4294967296 ^ a + uN fac * wn (F q) * 4294967296 ^ (a + q) := by
            rw [Nat.mul_add, Nat.add_mul, Nat.pow_add]
            congr 1
            ac_rfl
          refine h9.trans ?_
          rw [h8]
          omega) (by rw [u78]; omega) (fun t ht => by rw [pk_un (by omega)]; exact hf t (by omega)) hU (lv_sub hl [2, 3, 4, 5, 1, 6, 0] rfl)
  refine lv_lconst (v := 0) hx hb d_B_addRow_0 (by decide) ?_
  refine lv_lstore (lv' := [(5, .long 0), (0, .ref (oA z i)), (1, .long fac), (3, .ref (oA z j)), (4, .int (nI a))]) hx hb d_B_addRow_1 hl (by decide) rfl (fun ls hl => ?_)
  refine lv_iload hx hb d_B_addRow_3 (lv_at hl 4 rfl) ?_
  refine lv_aload_n hx hb d_B_addRow_5 rfl (lv_at hl 3 rfl) ?_
  refine va_get (D := z.1) (ci := 2) (v := .int ((g.2.2.2 j).1)) (C := R_B) (T := F_B) (N := 3) hx hb hts in_B hown hU.2.1 hU.1 (2 + 2 * j) (uw_o z g hj) rfl 1 (by decide) (hts _ k_B_23) (fun _ h9 => h9) rfl d_B_addRow_6 ?_
  refine lv_topi (fun x6 ex6 => ?_)
  refine lv_iadd hx hb d_B_addRow_9 ?_
  refine lv_topi (fun x9 ex9 => ?_)
  refine lv_sipush (v := 512) hx hb d_B_addRow_10 (by decide) ?_
  refine va_mmin hx hb (hml.trans hl.1.symm) hown (hts _ k_B_47) (hts _ q_min_st) (hts _ q_math) (hts _ q_min_co) (Nat.le_of_ble_eq_true rfl) (Nat.le_of_ble_eq_true rfl) (Nat.zero_le _) (Nat.zero_le _) d_B_addRow_13 ?_
  refine lv_topi (fun x13 ex13 => ?_)
  refine lv_istore (lv' := [(7, .int x13), (5, .long 0), (0, .ref (oA z i)), (1, .long fac), (3, .ref (oA z j)), (4, .int (nI a))]) hx hb d_B_addRow_16 hl (by decide) rfl (fun ls hl => ?_)
  refine lv_iload hx hb d_B_addRow_18 (lv_at hl 5 rfl) ?_
  refine lv_istore (lv' := [(8, .int (nI a)), (7, .int x13), (5, .long 0), (0, .ref (oA z i)), (1, .long fac), (3, .ref (oA z j)), (4, .int (nI a))]) hx hb d_B_addRow_20 hl (by decide) rfl (fun ls hl => ?_)
  have e13 : x13 = nI T := by
    rw [ex13, ex9, ex6, hn1, nI_add, eT]
    exact min_nI (by omega) (by decide)
  rw [e13] at hl
  exact K (T - a) 0 G 0 _ _ ls (by omega) (by show vl G a + 0 * _ = vl G a + uN fac * 0 * _; omega) (by decide) (fun _ _ => rfl) (by rw [eG, sW_self]; exact hU) (lv_sub hl [3, 4, 5, 6, 2, 1, 0] rfl)
set_option maxHeartbeats 4000000 in
set_option maxRecDepth 100000 in
theorem c_setProduct (l : Launch) (z : ZZ) (sz : Nat) (g : St) {i j k : Nat} (hi : i < 10) (hj : j < 10) (hk : k < 10) (hij : j ≠ i) (hik : k ≠ i) (hok : bOk (g.2.2.2 j)) (hok2 : bOk (g.2.2.2 k)) : Met l y_B_setProduct (zw y_B_setProduct b_B_setProduct 5 none) { frames := 2, cells := 0, slots := 0, locals := 51 } (va_Pc [.ref (oA z i), .ref (oA z j), .ref (oA z k)] (zI z g sz)) (va_Qv (fun g2 => ∃ b, g2 = sG g i b ∧ bOk b ∧ b.2.1 = (if (g.2.2.2 j).2.1 = (g.2.2.2 k).2.1 then 0 else 1) ∧ bv b = bv (g.2.2.2 j) * bv (g.2.2.2 k) % MM) (zO z sz) (zA z sz)) 0 0 (zA z sz) := by
  refine z_ofW (by decide) (Nat.le_of_ble_eq_true rfl) (fun p e s m below meth c hx hb hr hml hown hts hlocks hname hsz hN ls hU hl => ?_)
  have hl : lv_has ls 5 [(0, .ref (oA z i)), (1, .ref (oA z j)), (2, .ref (oA z k))] := hl
  obtain ⟨n, hn, hn1, hbel, htop⟩ := hok
  have hbv : bv (g.2.2.2 j) = vl (g.2.2.2 j).2.2 n := bv_of hn hn1
  obtain ⟨r, hr0, hr1, hrbel, hrtop⟩ := hok2
  have hbr : bv (g.2.2.2 k) = vl (g.2.2.2 k).2.2 r := bv_of hr0 hr1
  generalize eF : (g.2.2.2 j).2.2 = F at hbv htop
  generalize eG : (g.2.2.2 k).2.2 = G at hbr hrtop
  obtain ⟨T, eT⟩ : ∃ y, y = min (n + r) 512 := ⟨_, rfl⟩
  have hT : T ≤ 512 := by omega
  have E93 : ∀ (v : Int32) (f : Nat → Int32) (q : Int32) (H : Heap) (locs : List Loc) (ls : Array Slot), (v = 0 ∨ v = 1) → v = (if (g.2.2.2 j).2.1 = (g.2.2.2 k).2.1 then 0 else 1) → vl f T % MM = vl F n * vl G r % MM → Ws z (sW g i f) s.heap H locs s → lv_has ls 5 [(0, .ref (oA z i)), (1, .ref (oA z j)), (2, .ref (oA z k)), (3, .int (nI T)), (4, .int q)] → W p l e ({ frames := 2, cells := 0, slots := 0, locals := 51 } : Room) s m ([.ref (oA z i), .ref (oA z j), .ref (oA z k)] : List Value).toArray below meth c H locs 0 0 (MQ below (va_Qv (fun g2 => ∃ b, g2 = sG g i b ∧ bOk b ∧ b.2.1 = (if (g.2.2.2 j).2.1 = (g.2.2.2 k).2.1 then 0 else 1) ∧ bv b = bv (g.2.2.2 j) * bv (g.2.2.2 k) % MM) (zO z sz) (zA z sz)) ([.ref (oA z i), .ref (oA z j), .ref (oA z k)] : List Value).toArray s 0 0 (zA z sz)) (F0 m 93 ls [.int v, .ref (oA z i)]) := by
    intro v f q H locs ls hbo93 hv hI hU hl
    refine zp_B hx hb hts hown hU hi (hts _ k_B_15) hbo93 d_B_setProduct_93 (fun H locs hU => ?_)
    generalize eg93 : sG (sW g i f) i (((sW g i f).2.2.2 i).1, v, ((sW g i f).2.2.2 i).2.2) = g93 at hU
    refine lv_aload_n hx hb d_B_setProduct_96 rfl (lv_at hl 0 rfl) ?_
    refine lv_iload_n hx hb d_B_setProduct_97 rfl (lv_at hl 3 rfl) ?_
    refine lv_lconst (v := 0) hx hb d_B_setProduct_98 (by decide) ?_
    have e93 : (g93.2.2.2 i) = ((g.2.2.2 i).1, v, f) := by rw [← eg93, sG_s, sW_s]
    refine z_callv (z_run (As := [.int (nI T), .long 0]) (rest := []) hx hb hml hown hts hU hN (c_close l z _ g93 hi (by rw [e93]; exact hbo93) hT 0) (w_B_close_cw hts k_B_19 rfl rfl ⟨Nat.le_of_ble_eq_true rfl, Nat.le_of_ble_eq_true rfl⟩) (z_recvB hU hi) rfl hl.1 rfl (lv_room (Nat.le_of_ble_eq_true rfl)) d_B_setProduct_99 ⟨Nat.zero_le _, Nat.zero_le _⟩) hU (fun g3 H locs hp hU => ?_)
    obtain ⟨b, rfl, hb1, hb2, hb3⟩ := hp
    rw [← eg93, sG_sG, sW_eq, sG_sG] at hU
    exact z_vret hx hb hr hlocks hsz hU ⟨b, rfl, hb1, by rw [hb2, e93]; exact hv, by
      rw [hb3, e93, uN_0, Nat.zero_mod, Nat.zero_mul, Nat.add_zero, hbv, hbr]
      exact hI⟩ d_B_setProduct_102
  have K : ∀ (d q : Nat) (f : Nat → Int32) (H : Heap) (locs : List Loc) (ls : Array Slot), q + d = n → vl f T % MM = vl F q * vl G r % MM → (∀ t, q + r ≤ t → t < T → f t = 0) → Ws z (sW g i f) s.heap H locs s → lv_has ls 5 [(0, .ref (oA z i)), (1, .ref (oA z j)), (2, .ref (oA z k)), (3, .int (nI T)), (4, .int (nI q))] → W p l e ({ frames := 2, cells := 0, slots := 0, locals := 51 } : Room) s m ([.ref (oA z i), .ref (oA z j), .ref (oA z k)] : List Value).toArray below meth c H locs 0 0 (MQ below (va_Qv (fun g2 => ∃ b, g2 = sG g i b ∧ bOk b ∧ b.2.1 = (if (g.2.2.2 j).2.1 = (g.2.2.2 k).2.1 then 0 else 1) ∧ bv b = bv (g.2.2.2 j) * bv (g.2.2.2 k) % MM) (zO z sz) (zA z sz)) ([.ref (oA z i), .ref (oA z j), .ref (oA z k)] : List Value).toArray s 0 0 (zA z sz)) (F0 m 42 ls []) := by
    intro d
    induction d with
    | zero =>
      intro q f H locs ls hq hI hf hU hl
      have hq : q = n := by omega
      subst hq
      refine lv_iload hx hb d_B_setProduct_42 (lv_at hl 4 rfl) ?_
      refine lv_aload_n hx hb d_B_setProduct_44 rfl (lv_at hl 1 rfl) ?_
      refine va_get (D := z.1) (ci := 2) (v := .int (((sW g i f).2.2.2 j).1)) (C := R_B) (T := F_B) (N := 3) hx hb hts in_B hown hU.2.1 hU.1 (2 + 2 * j) (uw_o z (sW g i f) hj) rfl 1 (by decide) (hts _ k_B_23) (fun _ h9 => h9) rfl d_B_setProduct_45 ?_
      refine lv_topi (fun x45 ex45 => ?_)
      have e45 : x45 = nI q := by rw [ex45, sW_n _ _ hij, hn1]
      refine lv_icmp_ge (tgt := 76) hx hb d_B_setProduct_48 (by decide) (fun c48 => ?_) (fun c48 => ?_)
      · refine lv_aload_n hx hb d_B_setProduct_76 rfl (lv_at hl 0 rfl) ?_
        refine lv_aload_n hx hb d_B_setProduct_77 rfl (lv_at hl 1 rfl) ?_
        refine va_get (D := z.1) (ci := 2) (v := .int (((sW g i f).2.2.2 j).2.1)) (C := R_B) (T := F_B) (N := 3) hx hb hts in_B hown hU.2.1 hU.1 (2 + 2 * j) (uw_o z (sW g i f) hj) rfl 2 (by decide) (hts _ k_B_15) (fun _ h9 => h9) rfl d_B_setProduct_78 ?_
        refine lv_topi (fun x78 ex78 => ?_)
        refine lv_aload_n hx hb d_B_setProduct_81 rfl (lv_at hl 2 rfl) ?_
        refine va_get (D := z.1) (ci := 2) (v := .int (((sW g i f).2.2.2 k).2.1)) (C := R_B) (T := F_B) (N := 3) hx hb hts in_B hown hU.2.1 hU.1 (2 + 2 * k) (uw_o z (sW g i f) hk) rfl 2 (by decide) (hts _ k_B_15) (fun _ h9 => h9) rfl d_B_setProduct_82 ?_
        refine lv_topi (fun x82 ex82 => ?_)
        have e78 : x78 = (g.2.2.2 j).2.1 := by rw [ex78, sW_n _ _ hij]
        have e82 : x82 = (g.2.2.2 k).2.1 := by rw [ex82, sW_n _ _ hik]
        refine lv_icmp_eq (tgt := 92) hx hb d_B_setProduct_85 (by decide) (fun c85 => ?_) (fun c85 => ?_)
        · refine lv_iconst (v := 0) hx hb d_B_setProduct_92 (by decide) ?_
          exact E93 0 f _ _ _ ls (Or.inl rfl) (by rw [← e78, ← e82, if_pos c85]) hI hU hl
        · refine lv_iconst (v := 1) hx hb d_B_setProduct_88 (by decide) ?_
          refine lv_goto (tgt := 93) hx hb d_B_setProduct_89 (by decide) ?_
          exact E93 1 f _ _ _ ls (Or.inr rfl) (by rw [← e78, ← e82, if_neg c85]) hI hU hl
      · exact absurd (by rw [e45]; exact Int32.le_refl _) c48
    | succ d ih =>
      intro q f H locs ls hq hI hf hU hl
      refine lv_iload hx hb d_B_setProduct_42 (lv_at hl 4 rfl) ?_
      refine lv_aload_n hx hb d_B_setProduct_44 rfl (lv_at hl 1 rfl) ?_
      refine va_get (D := z.1) (ci := 2) (v := .int (((sW g i f).2.2.2 j).1)) (C := R_B) (T := F_B) (N := 3) hx hb hts in_B hown hU.2.1 hU.1 (2 + 2 * j) (uw_o z (sW g i f) hj) rfl 1 (by decide) (hts _ k_B_23) (fun _ h9 => h9) rfl d_B_setProduct_45 ?_
      refine lv_topi (fun x45 ex45 => ?_)
      have e45 : x45 = nI n := by rw [ex45, sW_n _ _ hij, hn1]
      refine lv_icmp_ge (tgt := 76) hx hb d_B_setProduct_48 (by decide) (fun c48 => ?_) (fun c48 => ?_)
      · exact absurd (by rw [e45] at c48; exact c48) (nI_ge (by omega) (by omega))
      · have hin58 : vp_in (nI q) 512 := vp_in_nI (by omega) (by decide)
        refine lv_aload_n hx hb d_B_setProduct_51 rfl (lv_at hl 0 rfl) ?_
        refine lv_aload_n hx hb d_B_setProduct_52 rfl (lv_at hl 1 rfl) ?_
        refine va_get (D := z.1) (ci := 2) (v := .ref (rA z j)) (C := R_B) (T := F_B) (N := 3) hx hb hts in_B hown hU.2.1 hU.1 (2 + 2 * j) (uw_o z (sW g i f) hj) rfl 0 (by decide) (hts _ k_B_9) (fun _ h9 => h9) rfl d_B_setProduct_53 ?_
        refine lv_iload hx hb d_B_setProduct_56 (lv_at hl 4 rfl) ?_
        refine va_iald hx hb hU.2.1 hU.1 (3 + 2 * j) j (uw_w z (sW g i f) hj) (zty_a z hj) hin58 d_B_setProduct_58 ?_
        refine lv_topi (fun x58 ex58 => ?_)
        refine lv_i2l hx hb d_B_setProduct_59 rfl ?_
        refine lv_topl (fun x59 ex59 => ?_)
        refine lv_ldc2 (v := 4294967295) hx hb hown (hts _ k_B_39) d_B_setProduct_60 ?_
        refine lv_land hx hb d_B_setProduct_63 ?_
        refine lv_topl (fun x63 ex63 => ?_)
        refine lv_aload_n hx hb d_B_setProduct_64 rfl (lv_at hl 2 rfl) ?_
        refine lv_iload hx hb d_B_setProduct_65 (lv_at hl 4 rfl) ?_
        have a1 : x58 = F q := by rw [ex58, sW_n _ _ hij, nI_clamp (by omega), eF]
        have u63 : uN x63 = wn (F q) := by rw [ex63, ex59, a1]; exact uN_w _
        have w1 := wn_lt (F q)
        refine z_callv (z_run (As := [.long x63, .ref (oA z k), .int (nI q)]) (rest := []) hx hb hml hown hts hU hN (c_addRow l z _ (sW g i f) hi hk hik hr0 (by rw [sW_n _ _ hik]; exact hr1) (a := q) (by omega) (fac := x63) (by omega)) (w_B_addRow_cw hts k_B_51 rfl rfl ⟨Nat.le_of_ble_eq_true rfl, Nat.le_of_ble_eq_true rfl⟩) (z_recvB hU hi) rfl hl.1 rfl (lv_room (Nat.le_of_ble_eq_true rfl)) d_B_setProduct_67 ⟨Nat.zero_le _, Nat.zero_le _⟩) hU (fun g67 H locs hp67 hU => ?_)
        obtain ⟨f2, rfl, hA, hB⟩ := hp67
        rw [sW_sW] at hU
        rw [sW_s, sW_n _ _ hik, eG, u63] at hA hB
        obtain ⟨x70, ex70⟩ : ∃ y : Int32, y = (nI q) + Int32.ofInt 1 := ⟨_, rfl⟩
        refine lv_iinc (v := x70) (lv' := [(4, .int x70), (0, .ref (oA z i)), (1, .ref (oA z j)), (2, .ref (oA z k)), (3, .int (nI T))]) hx hb d_B_setProduct_70 hl (k := 4) rfl (by rw [ex70]) (by decide) rfl (fun ls hl => ?_)
        refine lv_goto (tgt := 42) hx hb d_B_setProduct_73 (by decide) ?_
        rw [ex70, show Int32.ofInt 1 = 1 from rfl, nI_1] at hl
        have h5 : vl F (q + 1) * vl G r = vl F q * vl G r + wn (F q) * vl G r * 4294967296 ^ q := by
          rw [vl_s, Nat.add_mul]
          congr 1
          ac_rfl
        rcases Nat.lt_or_ge (q + r) 512 with h6 | h6
        · obtain ⟨h7, h8⟩ := hA h6
          have hz1 : vl f T = vl f (q + r) := vl_zero (by omega) (fun t h1 h2 => hf t h1 h2)
          have hz2 : vl f2 T = vl f2 (q + r + 1) := vl_zero (by omega) (fun t h1 h2 => by rw [h8 t (by omega)]; exact hf t (by omega) h2)
          exact ih (q + 1) f2 _ _ ls (by omega) (by
            rw [hz2, h7, h5, ← hz1]
            exact Nat.add_mod_right_cancel' hI) (fun t h1 h2 => by rw [h8 t (by omega)]; exact hf t (by omega) h2) hU (lv_sub hl [1, 2, 3, 4, 0] rfl)
        · have h7 := hB h6
          have hT2 : T = 512 := by omega
          exact ih (q + 1) f2 _ _ ls (by omega) (by
            rw [hT2] at hI ⊢
            rw [h7, h5]
            exact mod_row hI (by omega) (by omega)) (fun t h1 h2 => by omega) hU (lv_sub hl [1, 2, 3, 4, 0] rfl)
  have Z : ∀ (d q : Nat) (f : Nat → Int32) (H : Heap) (locs : List Loc) (ls : Array Slot), q + d = T → (∀ t, t < q → f t = 0) → Ws z (sW g i f) s.heap H locs s → lv_has ls 5 [(0, .ref (oA z i)), (1, .ref (oA z j)), (2, .ref (oA z k)), (3, .int (nI T)), (4, .int (nI q))] → W p l e ({ frames := 2, cells := 0, slots := 0, locals := 51 } : Room) s m ([.ref (oA z i), .ref (oA z j), .ref (oA z k)] : List Value).toArray below meth c H locs 0 0 (MQ below (va_Qv (fun g2 => ∃ b, g2 = sG g i b ∧ bOk b ∧ b.2.1 = (if (g.2.2.2 j).2.1 = (g.2.2.2 k).2.1 then 0 else 1) ∧ bv b = bv (g.2.2.2 j) * bv (g.2.2.2 k) % MM) (zO z sz) (zA z sz)) ([.ref (oA z i), .ref (oA z j), .ref (oA z k)] : List Value).toArray s 0 0 (zA z sz)) (F0 m 19 ls []) := by
    intro d
    induction d with
    | zero =>
      intro q f H locs ls hq hf hU hl
      have hq : q = T := by omega
      rw [hq] at hl hf
      refine lv_iload hx hb d_B_setProduct_19 (lv_at hl 4 rfl) ?_
      refine lv_iload_n hx hb d_B_setProduct_21 rfl (lv_at hl 3 rfl) ?_
      refine lv_icmp_ge (tgt := 39) hx hb d_B_setProduct_22 (by decide) (fun c22 => ?_) (fun c22 => ?_)
      · refine lv_iconst (v := 0) hx hb d_B_setProduct_39 (by decide) ?_
        refine lv_istore (lv' := [(4, .int 0), (0, .ref (oA z i)), (1, .ref (oA z j)), (2, .ref (oA z k)), (3, .int (nI T))]) hx hb d_B_setProduct_40 hl (by decide) rfl (fun ls hl => ?_)
        exact K n 0 f _ _ ls (Nat.zero_add n) (by rw [vl_zero (Nat.zero_le T) (fun t _ h2 => hf t h2)]; show 0 % MM = 0 * _ % MM; rw [Nat.zero_mul]) (fun t _ h2 => hf t h2) hU (lv_sub hl [1, 2, 3, 4, 0] rfl)
      · exact absurd (Int32.le_refl _) c22
    | succ d ih =>
      intro q f H locs ls hq hf hU hl
      refine lv_iload hx hb d_B_setProduct_19 (lv_at hl 4 rfl) ?_
      refine lv_iload_n hx hb d_B_setProduct_21 rfl (lv_at hl 3 rfl) ?_
      refine lv_icmp_ge (tgt := 39) hx hb d_B_setProduct_22 (by decide) (fun c22 => ?_) (fun c22 => ?_)
      · exact absurd c22 (nI_ge (by omega) (by omega))
      · have hin32 : vp_in (nI q) 512 := vp_in_nI (by omega) (by decide)
        refine lv_aload_n hx hb d_B_setProduct_25 rfl (lv_at hl 0 rfl) ?_
        refine va_get (D := z.1) (ci := 2) (v := .ref (rA z i)) (C := R_B) (T := F_B) (N := 3) hx hb hts in_B hown hU.2.1 hU.1 (2 + 2 * i) (uw_o z (sW g i f) hi) rfl 0 (by decide) (hts _ k_B_9) (fun _ h9 => h9) rfl d_B_setProduct_26 ?_
        refine lv_iload hx hb d_B_setProduct_29 (lv_at hl 4 rfl) ?_
        refine lv_iconst (v := 0) hx hb d_B_setProduct_31 (by decide) ?_
        refine z_iast hx hb hU hi hin32 d_B_setProduct_32 (fun H locs hU => ?_)
        generalize eg32 : sW (sW g i f) i (upd ((sW g i f).2.2.2 i).2.2 (nI q).toNatClampNeg 0) = g32 at hU
        obtain ⟨x33, ex33⟩ : ∃ y : Int32, y = (nI q) + Int32.ofInt 1 := ⟨_, rfl⟩
        refine lv_iinc (v := x33) (lv' := [(4, .int x33), (0, .ref (oA z i)), (1, .ref (oA z j)), (2, .ref (oA z k)), (3, .int (nI T))]) hx hb d_B_setProduct_33 hl (k := 4) rfl (by rw [ex33]) (by decide) rfl (fun ls hl => ?_)
        refine lv_goto (tgt := 19) hx hb d_B_setProduct_36 (by decide) ?_
        rw [← eg32, sW_sW, sW_s, nI_clamp (by omega)] at hU
        rw [ex33, show Int32.ofInt 1 = 1 from rfl, nI_1] at hl
        exact ih (q + 1) _ _ _ ls (by omega) (fun t ht => by
          by_cases h : t = q
          · rw [h, pk_us]
          · rw [pk_un h]; exact hf t (by omega)) hU (lv_sub hl [1, 2, 3, 4, 0] rfl)
  refine lv_aload_n hx hb d_B_setProduct_0 rfl (lv_at hl 1 rfl) ?_
  refine va_get (D := z.1) (ci := 2) (v := .int ((g.2.2.2 j).1)) (C := R_B) (T := F_B) (N := 3) hx hb hts in_B hown hU.2.1 hU.1 (2 + 2 * j) (uw_o z g hj) rfl 1 (by decide) (hts _ k_B_23) (fun _ h9 => h9) rfl d_B_setProduct_1 ?_
  refine lv_topi (fun x1 ex1 => ?_)
  refine lv_aload_n hx hb d_B_setProduct_4 rfl (lv_at hl 2 rfl) ?_
  refine va_get (D := z.1) (ci := 2) (v := .int ((g.2.2.2 k).1)) (C := R_B) (T := F_B) (N := 3) hx hb hts in_B hown hU.2.1 hU.1 (2 + 2 * k) (uw_o z g hk) rfl 1 (by decide) (hts _ k_B_23) (fun _ h9 => h9) rfl d_B_setProduct_5 ?_
  refine lv_topi (fun x5 ex5 => ?_)
  refine lv_iadd hx hb d_B_setProduct_8 ?_
  refine lv_topi (fun x8 ex8 => ?_)
  refine lv_sipush (v := 512) hx hb d_B_setProduct_9 (by decide) ?_
  refine va_mmin hx hb (hml.trans hl.1.symm) hown (hts _ k_B_47) (hts _ q_min_st) (hts _ q_math) (hts _ q_min_co) (Nat.le_of_ble_eq_true rfl) (Nat.le_of_ble_eq_true rfl) (Nat.zero_le _) (Nat.zero_le _) d_B_setProduct_12 ?_
  refine lv_topi (fun x12 ex12 => ?_)
  refine lv_istore_n (lv' := [(3, .int x12), (0, .ref (oA z i)), (1, .ref (oA z j)), (2, .ref (oA z k))]) hx hb d_B_setProduct_15 rfl hl (by decide) rfl (fun ls hl => ?_)
  refine lv_iconst (v := 0) hx hb d_B_setProduct_16 (by decide) ?_
  refine lv_istore (lv' := [(4, .int 0), (3, .int x12), (0, .ref (oA z i)), (1, .ref (oA z j)), (2, .ref (oA z k))]) hx hb d_B_setProduct_17 hl (by decide) rfl (fun ls hl => ?_)
  have e12 : x12 = nI T := by
    rw [ex12, ex8, ex1, ex5, hn1, hr1, nI_add, eT]
    exact min_nI (by omega) (by decide)
  rw [e12] at hl
  exact Z T 0 (g.2.2.2 i).2.2 _ _ ls (Nat.zero_add T) (fun t h => by omega) (by rw [sW_self]; exact hU) (lv_sub hl [2, 3, 4, 1, 0] rfl)
set_option maxHeartbeats 4000000 in
set_option maxRecDepth 100000 in
theorem c_modulo (l : Launch) (z : ZZ) (sz : Nat) (g : St) {i : Nat} (hi : i < 10) (hok : bOk (g.2.2.2 i)) {M : Nat} (hM0 : 0 < M) (hM : M < 2 ^ 31) : Met l y_B_modulo (zw y_B_modulo b_B_modulo 5 (some .long)) { frames := 0, cells := 0, slots := 0, locals := 0 } (va_Pc [.ref (oA z i), .int (nI M)] (zI z g sz)) (va_Ql (fun r g2 => g2 = g ∧ r.toInt = bz (g.2.2.2 i) % (M : Int)) (zO z sz) (zA z sz)) 0 0 (zA z sz) := by
  refine z_ofW (by decide) (Nat.le_of_ble_eq_true rfl) (fun p e s m below meth c hx hb hr hml hown hts hlocks hname hsz hN ls hU hl => ?_)
  have hl : lv_has ls 5 [(0, .ref (oA z i)), (1, .int (nI M))] := hl
  obtain ⟨n, hn, hn1, hbel, htop⟩ := hok
  have hbv : bv (g.2.2.2 i) = vl (g.2.2.2 i).2.2 n := bv_of hn hn1
  generalize eF : (g.2.2.2 i).2.2 = F at hbv htop
  have K : ∀ (q : Nat) (rs : Int64) (H : Heap) (locs : List Loc) (ls : Array Slot), q ≤ n → uN rs = vl F n / 4294967296 ^ q % M → Ws z g s.heap H locs s → lv_has ls 5 [(0, .ref (oA z i)), (1, .int (nI M)), (2, .long rs), (4, .int (nI q - 1))] → W p l e ({ frames := 0, cells := 0, slots := 0, locals := 0 } : Room) s m ([.ref (oA z i), .int (nI M)] : List Value).toArray below meth c H locs 0 0 (MQ below (va_Ql (fun r g2 => g2 = g ∧ r.toInt = bz (g.2.2.2 i) % (M : Int)) (zO z sz) (zA z sz)) ([.ref (oA z i), .int (nI M)] : List Value).toArray s 0 0 (zA z sz)) (F0 m 10 ls []) := by
    intro q
    induction q with
    | zero =>
      intro rs H locs ls hq hI hU hl
      have hI : uN rs = bv (g.2.2.2 i) % M := by rw [hI, hbv, Nat.pow_zero, Nat.div_one]
      have hlt : uN rs < M := by rw [hI]; exact Nat.mod_lt _ hM0
      have t0 := uN_int rs
      rw [if_pos (by omega)] at t0
      refine lv_iload hx hb d_B_modulo_10 (lv_at hl 3 rfl) ?_
      refine lv_if_lt (tgt := 42) hx hb d_B_modulo_12 (by decide) (fun c12 => ?_) (fun c12 => ?_)
      · refine lv_aload_n hx hb d_B_modulo_42 rfl (lv_at hl 0 rfl) ?_
        refine va_get (D := z.1) (ci := 2) (v := .int ((g.2.2.2 i).2.1)) (C := R_B) (T := F_B) (N := 3) hx hb hts in_B hown hU.2.1 hU.1 (2 + 2 * i) (uw_o z g hi) rfl 2 (by decide) (hts _ k_B_15) (fun _ h9 => h9) rfl d_B_modulo_43 ?_
        refine lv_topi (fun x43 ex43 => ?_)
        refine lv_if_eq (tgt := 62) hx hb d_B_modulo_46 (by decide) (fun c46 => ?_) (fun c46 => ?_)
        · have h46 : (g.2.2.2 i).2.1 = 0 := by rw [← ex43]; exact c46
          refine lv_lload_n hx hb d_B_modulo_62 rfl (lv_at hl 2 rfl) ?_
          exact z_lret hx hb hr hlocks hsz hU ⟨rfl, by rw [t0, hI, bz, if_pos h46]; rfl⟩ d_B_modulo_63
        · have h46 : ¬ (g.2.2.2 i).2.1 = 0 := by rw [← ex43]; exact c46
          refine lv_lload_n hx hb d_B_modulo_49 rfl (lv_at hl 2 rfl) ?_
          refine lv_lconst (v := 0) hx hb d_B_modulo_50 (by decide) ?_
          refine W.lcmp hx hb d_B_modulo_51 ?_
          refine lv_if_le (tgt := 62) hx hb d_B_modulo_52 (by decide) (fun c52 => ?_) (fun c52 => ?_)
          · have h52 : uN rs = 0 := by
              have q : rs ≤ 0 := (lg_cmp_le _ _).mp c52
              rw [Int64.le_iff_toInt_le, Int64.toInt_zero] at q
              omega
            refine lv_lload_n hx hb d_B_modulo_62 rfl (lv_at hl 2 rfl) ?_
            exact z_lret hx hb hr hlocks hsz hU ⟨rfl, by rw [t0, h52, bz, if_neg h46]; exact (neg_mod0 (by omega)).symm⟩ d_B_modulo_63
          · have h52 : 0 < uN rs := by
              have q : ¬ rs ≤ 0 := fun q => c52 ((lg_cmp_le _ _).mpr q)
              rw [Int64.le_iff_toInt_le, Int64.toInt_zero] at q
              omega
            refine lv_iload_n hx hb d_B_modulo_55 rfl (lv_at hl 1 rfl) ?_
            refine lv_i2l hx hb d_B_modulo_56 rfl ?_
            refine lv_topl (fun x56 ex56 => ?_)
            refine lv_lload_n hx hb d_B_modulo_57 rfl (lv_at hl 2 rfl) ?_
            refine lv_lsub hx hb d_B_modulo_58 ?_
            refine lv_topl (fun x58 ex58 => ?_)
            refine lv_goto (tgt := 63) hx hb d_B_modulo_59 (by decide) ?_
            have t56 : x56.toInt = (M : Int) := by rw [ex56, Jvm.Kit.i64_of_i32, nI_toInt hM]
            have t58 : x58.toInt = (M : Int) - (uN rs : Int) := by rw [ex58, Jvm.Kit.i64_sub] <;> omega
            exact z_lret hx hb hr hlocks hsz hU ⟨rfl, by rw [t58, hI, bz, if_neg h46]; exact (neg_mod1 hM0 (by omega)).symm⟩ d_B_modulo_63
      · exact absurd (by decide) c12
    | succ q ih =>
      intro rs H locs ls hq hI hU hl
      rw [nI_pred] at hl
      have hlt : uN rs < M := by rw [hI]; exact Nat.mod_lt _ hM0
      refine lv_iload hx hb d_B_modulo_10 (lv_at hl 3 rfl) ?_
      refine lv_if_lt (tgt := 42) hx hb d_B_modulo_12 (by decide) (fun c12 => ?_) (fun c12 => ?_)
      · exact absurd c12 (nI_pos (by omega))
      · have hin25 : vp_in (nI q) 512 := vp_in_nI (by omega) (by decide)
        refine lv_lload_n hx hb d_B_modulo_15 rfl (lv_at hl 2 rfl) ?_
        refine lv_bipush (v := 32) hx hb d_B_modulo_16 (by decide) ?_
        refine lv_lshl hx hb d_B_modulo_18 rfl ?_
        refine lv_topl (fun x18 ex18 => ?_)
        refine lv_aload_n hx hb d_B_modulo_19 rfl (lv_at hl 0 rfl) ?_
        refine va_get (D := z.1) (ci := 2) (v := .ref (rA z i)) (C := R_B) (T := F_B) (N := 3) hx hb hts in_B hown hU.2.1 hU.1 (2 + 2 * i) (uw_o z g hi) rfl 0 (by decide) (hts _ k_B_9) (fun _ h9 => h9) rfl d_B_modulo_20 ?_
        refine lv_iload hx hb d_B_modulo_23 (lv_at hl 3 rfl) ?_
        refine va_iald hx hb hU.2.1 hU.1 (3 + 2 * i) i (uw_w z g hi) (zty_a z hi) hin25 d_B_modulo_25 ?_
        refine lv_topi (fun x25 ex25 => ?_)
        refine lv_i2l hx hb d_B_modulo_26 rfl ?_
        refine lv_topl (fun x26 ex26 => ?_)
        refine lv_ldc2 (v := 4294967295) hx hb hown (hts _ k_B_39) d_B_modulo_27 ?_
        refine lv_land hx hb d_B_modulo_30 ?_
        refine lv_topl (fun x30 ex30 => ?_)
        refine lv_lor hx hb d_B_modulo_31 ?_
        refine lv_topl (fun x31 ex31 => ?_)
        refine lv_iload_n hx hb d_B_modulo_32 rfl (lv_at hl 1 rfl) ?_
        refine lv_i2l hx hb d_B_modulo_33 rfl ?_
        refine lv_topl (fun x33 ex33 => ?_)
        have t33 : x33.toInt = (M : Int) := by rw [ex33, Jvm.Kit.i64_of_i32, nI_toInt hM]
        have hne34 : ¬ x33 = 0 := fun q => by rw [q, Int64.toInt_zero] at t33; omega
        refine lv_lrem hx hb d_B_modulo_34 hne34 ?_
        refine lv_topl (fun x34 ex34 => ?_)
        refine lv_lstore_n (lv' := [(2, .long x34), (0, .ref (oA z i)), (1, .int (nI M)), (4, .int (nI q))]) hx hb d_B_modulo_35 rfl hl (by decide) rfl (fun ls hl => ?_)
        obtain ⟨x36, ex36⟩ : ∃ y : Int32, y = (nI q) + Int32.ofInt (-1) := ⟨_, rfl⟩
        refine lv_iinc (v := x36) (lv' := [(4, .int x36), (2, .long x34), (0, .ref (oA z i)), (1, .int (nI M))]) hx hb d_B_modulo_36 hl (k := 3) rfl (by rw [ex36]) (by decide) rfl (fun ls hl => ?_)
        refine lv_goto (tgt := 10) hx hb d_B_modulo_39 (by decide) ?_
        have a1 : x25 = F q := by rw [ex25, nI_clamp (by omega), eF]
        have u30 : uN x30 = wn (F q) := by rw [ex30, ex26, a1]; exact uN_w _
        have w1 := wn_lt (F q)
        have u31 : uN x31 = uN rs * 4294967296 + wn (F q) := by rw [ex31, ex18]; exact uN_shlor (by omega) u30 w1
        have t31 := uN_int x31
        rw [if_pos (by omega)] at t31
        have t34 : x34.toInt = x31.toInt % (M : Int) := by rw [ex34, Jvm.Kit.i64_rem_nonneg (by omega), t33]
        have u34 : uN x34 = (uN rs * 4294967296 + wn (F q)) % M := by
          have h1 := uN_of_nonneg (x := x34) (by rw [t34]; exact Int.emod_nonneg _ (by omega))
          rw [t34, t31, u31] at h1
          exact Int.ofNat.inj (by rw [Int.ofNat_eq_natCast, h1]; rfl)
        rw [ex36, show Int32.ofInt (-1) = -1 from rfl, ← Int32.sub_eq_add_neg] at hl
        exact ih x34 _ _ ls (by omega) (by rw [u34, hI]; exact div_word F (by omega)) hU (lv_sub hl [2, 3, 1, 0] rfl)
  refine lv_lconst (v := 0) hx hb d_B_modulo_0 (by decide) ?_
  refine lv_lstore_n (lv' := [(2, .long 0), (0, .ref (oA z i)), (1, .int (nI M))]) hx hb d_B_modulo_1 rfl hl (by decide) rfl (fun ls hl => ?_)
  refine lv_aload_n hx hb d_B_modulo_2 rfl (lv_at hl 1 rfl) ?_
  refine va_get (D := z.1) (ci := 2) (v := .int ((g.2.2.2 i).1)) (C := R_B) (T := F_B) (N := 3) hx hb hts in_B hown hU.2.1 hU.1 (2 + 2 * i) (uw_o z g hi) rfl 1 (by decide) (hts _ k_B_23) (fun _ h9 => h9) rfl d_B_modulo_3 ?_
  refine lv_topi (fun x3 ex3 => ?_)
  refine lv_iconst (v := 1) hx hb d_B_modulo_6 (by decide) ?_
  refine lv_isub hx hb d_B_modulo_7 ?_
  refine lv_topi (fun x7 ex7 => ?_)
  refine lv_istore (lv' := [(4, .int x7), (2, .long 0), (0, .ref (oA z i)), (1, .int (nI M))]) hx hb d_B_modulo_8 hl (by decide) rfl (fun ls hl => ?_)
  rw [ex7, ex3, hn1] at hl
  exact K n 0 _ _ ls (Nat.le_refl n) (by rw [vl_hi (Nat.le_refl n), Nat.zero_mod]; rfl) hU (lv_sub hl [2, 3, 1, 0] rfl)
