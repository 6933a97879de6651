/-! UnitFinder$Big, the rest -/
set_option maxHeartbeats 4000000 in
set_option maxRecDepth 100000 in
theorem c_setDifference (l : Launch) (z : ZZ) (sz : Nat) (g : St) {i j k : Nat} (hi : i < 10) (hj : j < 10) (hk : k < 10) (hij : j ≠ i) (hik : k ≠ i) (hok : bOk (g.2.2.2 j)) (hok2 : bOk (g.2.2.2 k)) : Met l y_B_setDifference (zw y_B_setDifference b_B_setDifference 9 none) { frames := 1, cells := 0, slots := 0, locals := 23 } (va_Pc [.ref (oA z i), .ref (oA z j), .ref (oA z k)] (zI z g sz)) (va_Qv (fun g2 => ∃ b, g2 = sG g i b ∧ bOk b ∧ b.2.1 = (if bv (g.2.2.2 j) < bv (g.2.2.2 k) then 1 else 0) ∧ bv b = (if bv (g.2.2.2 j) < bv (g.2.2.2 k) then bv (g.2.2.2 k) - bv (g.2.2.2 j) else bv (g.2.2.2 j) - bv (g.2.2.2 k))) (zO z sz) (zA z sz)) 0 0 (zA z sz) := by
  refine z_ofW (by decide) (Nat.le_of_ble_eq_true rfl) (fun p e s m below meth c hx hb hr hml hown hts hlocks hname hsz hN ls hU hl => ?_)
  have hl : lv_has ls 9 [(0, .ref (oA z i)), (1, .ref (oA z j)), (2, .ref (oA z k))] := hl
  have E : ∀ (a b : Nat) (x3 : Int32) (H : Heap) (locs : List Loc) (ls : Array Slot), a < 10 → b < 10 → a ≠ i → b ≠ i → bOk (g.2.2.2 a) → bOk (g.2.2.2 b) → bv (g.2.2.2 b) ≤ bv (g.2.2.2 a) → (x3 = 0 ∨ x3 = 1) → x3 = (if bv (g.2.2.2 j) < bv (g.2.2.2 k) then 1 else 0) → bv (g.2.2.2 a) - bv (g.2.2.2 b) = (if bv (g.2.2.2 j) < bv (g.2.2.2 k) then bv (g.2.2.2 k) - bv (g.2.2.2 j) else bv (g.2.2.2 j) - bv (g.2.2.2 k)) → Ws z g s.heap H locs s → lv_has ls 9 [(0, .ref (oA z i)), (1, .ref (oA z j)), (2, .ref (oA z k)), (3, .int x3), (4, .ref (oA z a)), (5, .ref (oA z b))] → W p l e ({ frames := 1, cells := 0, slots := 0, locals := 23 } : Room) s m ([.ref (oA z i), .ref (oA z j), .ref (oA z k)] : List Value).toArray below meth c H locs 0 0 (MQ below (va_Qv (fun g2 => ∃ b, g2 = sG g i b ∧ bOk b ∧ b.2.1 = (if bv (g.2.2.2 j) < bv (g.2.2.2 k) then 1 else 0) ∧ bv b = (if bv (g.2.2.2 j) < bv (g.2.2.2 k) then bv (g.2.2.2 k) - bv (g.2.2.2 j) else bv (g.2.2.2 j) - bv (g.2.2.2 k))) (zO z sz) (zA z sz)) ([.ref (oA z i), .ref (oA z j), .ref (oA z k)] : List Value).toArray s 0 0 (zA z sz)) (F0 m 28 ls []) := by
    intro a b x3 H locs ls ha hb0 hia hib hoka hokb hle hbo e3 eAB hU hl
    obtain ⟨n, hn, hn1, hbel, htop⟩ := hoka
    have hbv : bv (g.2.2.2 a) = vl (g.2.2.2 a).2.2 n := bv_of hn hn1
    obtain ⟨r, hr0, hr1, hrbel, hrtop⟩ := hokb
    have hbr : bv (g.2.2.2 b) = vl (g.2.2.2 b).2.2 r := bv_of hr0 hr1
    generalize eF : (g.2.2.2 a).2.2 = F at hbv htop
    generalize eG : (g.2.2.2 b).2.2 = G at hbr hrtop
    have hrn : r ≤ n := by
      rcases Nat.lt_or_ge n r with h | h
      · have := vl_len (f := F) h (hrtop.resolve_left (by omega))
        omega
      · exact h
    have K : ∀ (d q : Nat) (f : Nat → Int32) (cr : Int64) (H : Heap) (locs : List Loc) (ls : Array Slot), q + d = n → (vl f q : Int) + cr.toInt * (4294967296 ^ q : Nat) = (vl F q : Int) - (vl (wd G r) q : Int) → (cr.toInt = 0 ∨ cr.toInt = -1) → Ws z (sW g i f) s.heap H locs s → lv_has ls 9 [(0, .ref (oA z i)), (1, .ref (oA z j)), (2, .ref (oA z k)), (3, .int x3), (4, .ref (oA z a)), (5, .ref (oA z b)), (6, .long cr), (8, .int (nI q))] → W p l e ({ frames := 1, cells := 0, slots := 0, locals := 23 } : Room) s m ([.ref (oA z i), .ref (oA z j), .ref (oA z k)] : List Value).toArray below meth c H locs 0 0 (MQ below (va_Qv (fun g2 => ∃ b, g2 = sG g i b ∧ bOk b ∧ b.2.1 = (if bv (g.2.2.2 j) < bv (g.2.2.2 k) then 1 else 0) ∧ bv b = (if bv (g.2.2.2 j) < bv (g.2.2.2 k) then bv (g.2.2.2 k) - bv (g.2.2.2 j) else bv (g.2.2.2 j) - bv (g.2.2.2 k))) (zO z sz) (zA z sz)) ([.ref (oA z i), .ref (oA z j), .ref (oA z k)] : List Value).toArray s 0 0 (zA z sz)) (F0 m 34 ls []) := by
      intro d
      induction d with
      | zero =>
        intro q f cr H locs ls hq hI hc hU hl
        have hq : q = n := by omega
        subst hq
        refine lv_iload hx hb d_B_setDifference_34 (lv_at hl 7 rfl) ?_
        refine lv_aload hx hb d_B_setDifference_36 (lv_at hl 4 rfl) ?_
        refine va_get (D := z.1) (ci := 2) (v := .int (((sW g i f).2.2.2 a).1)) (C := R_B) (T := F_B) (N := 3) hx hb hts in_B hown hU.2.1 hU.1 (2 + 2 * a) (uw_o z (sW g i f) ha) rfl 1 (by decide) (hts _ k_B_23) (fun _ h9 => h9) rfl d_B_setDifference_38 ?_
        refine lv_topi (fun x38 ex38 => ?_)
        have e38 : x38 = nI q := by rw [ex38, sW_n _ _ hia, hn1]
        refine lv_icmp_ge (tgt := 98) hx hb d_B_setDifference_41 (by decide) (fun c41 => ?_) (fun c41 => ?_)
        · have hbo100 := hbo
          refine lv_aload_n hx hb d_B_setDifference_98 rfl (lv_at hl 0 rfl) ?_
          refine lv_iload_n hx hb d_B_setDifference_99 rfl (lv_at hl 3 rfl) ?_
          refine zp_B hx hb hts hown hU hi (hts _ k_B_15) hbo100 d_B_setDifference_100 (fun H locs hU => ?_)
          generalize eg100 : sG (sW g i f) i (((sW g i f).2.2.2 i).1, x3, ((sW g i f).2.2.2 i).2.2) = g100 at hU
          refine lv_aload_n hx hb d_B_setDifference_103 rfl (lv_at hl 0 rfl) ?_
          refine lv_aload hx hb d_B_setDifference_104 (lv_at hl 4 rfl) ?_
          refine va_get (D := z.1) (ci := 2) (v := .int ((g100.2.2.2 a).1)) (C := R_B) (T := F_B) (N := 3) hx hb hts in_B hown hU.2.1 hU.1 (2 + 2 * a) (uw_o z g100 ha) rfl 1 (by decide) (hts _ k_B_23) (fun _ h9 => h9) rfl d_B_setDifference_106 ?_
          refine lv_topi (fun x106 ex106 => ?_)
          refine lv_lconst (v := 0) hx hb d_B_setDifference_109 (by decide) ?_
          have e100 : (g100.2.2.2 i) = ((g.2.2.2 i).1, x3, f) := by rw [← eg100, sG_s, sW_s]
          have e106 : x106 = nI q := by rw [ex106, ← eg100, sG_n _ _ hia, sW_n _ _ hia, hn1]
          rw [e106]
          refine z_callv (z_run (As := [.int (nI q), .long 0]) (rest := []) hx hb hml hown hts hU hN (c_close l z _ g100 hi (by rw [e100]; exact hbo) hn 0) (w_B_close_cw hts k_B_19 rfl rfl ⟨Nat.le_of_ble_eq_true rfl, Nat.le_of_ble_eq_true rfl⟩) (z_recvB hU hi) rfl hl.1 rfl (lv_room (Nat.le_of_ble_eq_true rfl)) d_B_setDifference_110 ⟨Nat.zero_le _, Nat.zero_le _⟩) hU (fun g3 H locs hp hU => ?_)
          obtain ⟨b9, rfl, hb1, hb2, hb3⟩ := hp
          rw [← eg100, sG_sG, sW_eq, sG_sG] at hU
          have hv : vl f q = vl F q - vl G r := by
            rw [vl_wd hrn] at hI
            have hl1 := vl_lt f q
            have hle2 : vl G r ≤ vl F q := by rw [← hbv, ← hbr]; exact hle
            rcases hc with hc | hc <;> rw [hc] at hI <;> omega
          exact z_vret hx hb hr hlocks hsz hU ⟨b9, rfl, hb1, by rw [hb2, e100]; exact e3, by
            rw [hb3, e100, uN_0, Nat.zero_mod, Nat.zero_mul, Nat.add_zero, ← eAB, hbv, hbr]
            show vl f q % MM = _
            rw [hv, Nat.mod_eq_of_lt]
            have := vl_ltM F hn
            omega⟩ d_B_setDifference_113
        · exact absurd (by rw [e38]; exact Int32.le_refl _) c41
      | succ d ih =>
        intro q f cr H locs ls hq hI hc hU hl
        refine lv_iload hx hb d_B_setDifference_34 (lv_at hl 7 rfl) ?_
        refine lv_aload hx hb d_B_setDifference_36 (lv_at hl 4 rfl) ?_
        refine va_get (D := z.1) (ci := 2) (v := .int (((sW g i f).2.2.2 a).1)) (C := R_B) (T := F_B) (N := 3) hx hb hts in_B hown hU.2.1 hU.1 (2 + 2 * a) (uw_o z (sW g i f) ha) rfl 1 (by decide) (hts _ k_B_23) (fun _ h9 => h9) rfl d_B_setDifference_38 ?_
        refine lv_topi (fun x38 ex38 => ?_)
        have e38 : x38 = nI n := by rw [ex38, sW_n _ _ hia, hn1]
        refine lv_icmp_ge (tgt := 98) hx hb d_B_setDifference_41 (by decide) (fun c41 => ?_) (fun c41 => ?_)
        · exact absurd (by rw [e38] at c41; exact c41) (nI_ge (by omega) (by omega))
        · have hin53 : vp_in (nI q) 512 := vp_in_nI (by omega) (by decide)
          have hin84 := hin53
          refine lv_lload hx hb d_B_setDifference_44 (lv_at hl 6 rfl) ?_
          refine lv_aload hx hb d_B_setDifference_46 (lv_at hl 4 rfl) ?_
          refine va_get (D := z.1) (ci := 2) (v := .ref (rA z a)) (C := R_B) (T := F_B) (N := 3) hx hb hts in_B hown hU.2.1 hU.1 (2 + 2 * a) (uw_o z (sW g i f) ha) rfl 0 (by decide) (hts _ k_B_9) (fun _ h9 => h9) rfl d_B_setDifference_48 ?_
          refine lv_iload hx hb d_B_setDifference_51 (lv_at hl 7 rfl) ?_
          refine va_iald hx hb hU.2.1 hU.1 (3 + 2 * a) a (uw_w z (sW g i f) ha) (zty_a z ha) hin53 d_B_setDifference_53 ?_
          refine lv_topi (fun x53 ex53 => ?_)
          refine lv_i2l hx hb d_B_setDifference_54 rfl ?_
          refine lv_topl (fun x54 ex54 => ?_)
          refine lv_ldc2 (v := 4294967295) hx hb hown (hts _ k_B_39) d_B_setDifference_55 ?_
          refine lv_land hx hb d_B_setDifference_58 ?_
          refine lv_topl (fun x58 ex58 => ?_)
          refine lv_aload hx hb d_B_setDifference_59 (lv_at hl 5 rfl) ?_
          refine lv_iload hx hb d_B_setDifference_61 (lv_at hl 7 rfl) ?_
          refine z_calli (z_run (As := [.int (nI q)]) (rest := [.long x58, .long cr]) hx hb hml hown hts hU hN (c_wordAt l z _ (sW g i f) hb0 hr0 (by rw [sW_n _ _ hib]; exact hr1) (K := q) (by omega)) (w_B_wordAt_cw hts k_B_58 rfl rfl ⟨Nat.le_of_ble_eq_true rfl, Nat.le_of_ble_eq_true rfl⟩) (z_recvB hU hb0) rfl hl.1 rfl (lv_room (Nat.le_of_ble_eq_true rfl)) d_B_setDifference_63 ⟨Nat.zero_le _, Nat.zero_le _⟩) hU (fun r63 g63 H locs hp63 hU => ?_)
          obtain ⟨rfl, e63⟩ := hp63
          refine lv_i2l hx hb d_B_setDifference_66 rfl ?_
          refine lv_topl (fun x66 ex66 => ?_)
          refine lv_ldc2 (v := 4294967295) hx hb hown (hts _ k_B_39) d_B_setDifference_67 ?_
          refine lv_land hx hb d_B_setDifference_70 ?_
          refine lv_topl (fun x70 ex70 => ?_)
          refine lv_lsub hx hb d_B_setDifference_71 ?_
          refine lv_topl (fun x71 ex71 => ?_)
          refine lv_ladd hx hb d_B_setDifference_72 ?_
          refine lv_topl (fun x72 ex72 => ?_)
          refine lv_lstore (lv' := [(6, .long x72), (0, .ref (oA z i)), (1, .ref (oA z j)), (2, .ref (oA z k)), (3, .int x3), (4, .ref (oA z a)), (5, .ref (oA z b)), (8, .int (nI q))]) hx hb d_B_setDifference_73 hl (by decide) rfl (fun ls hl => ?_)
          refine lv_aload_n hx hb d_B_setDifference_75 rfl (lv_at hl 1 rfl) ?_
          refine va_get (D := z.1) (ci := 2) (v := .ref (rA z i)) (C := R_B) (T := F_B) (N := 3) hx hb hts in_B hown hU.2.1 hU.1 (2 + 2 * i) (uw_o z (sW g i f) hi) rfl 0 (by decide) (hts _ k_B_9) (fun _ h9 => h9) rfl d_B_setDifference_76 ?_
          refine lv_iload hx hb d_B_setDifference_79 (lv_at hl 7 rfl) ?_
          refine lv_lload hx hb d_B_setDifference_81 (lv_at hl 0 rfl) ?_
          refine lv_l2i hx hb d_B_setDifference_83 rfl ?_
          refine lv_topi (fun x83 ex83 => ?_)
          refine z_iast hx hb hU hi hin84 d_B_setDifference_84 (fun H locs hU => ?_)
          generalize eg84 : sW (sW g i f) i (upd ((sW g i f).2.2.2 i).2.2 (nI q).toNatClampNeg x83) = g84 at hU
          refine lv_lload hx hb d_B_setDifference_85 (lv_at hl 0 rfl) ?_
          refine lv_bipush (v := 32) hx hb d_B_setDifference_87 (by decide) ?_
          refine lv_lshr hx hb d_B_setDifference_89 rfl ?_
          refine lv_topl (fun x89 ex89 => ?_)
          refine lv_lstore (lv' := [(6, .long x89), (0, .ref (oA z i)), (1, .ref (oA z j)), (2, .ref (oA z k)), (3, .int x3), (4, .ref (oA z a)), (5, .ref (oA z b)), (8, .int (nI q))]) hx hb d_B_setDifference_90 hl (by decide) rfl (fun ls hl => ?_)
          obtain ⟨x92, ex92⟩ : ∃ y : Int32, y = (nI q) + Int32.ofInt 1 := ⟨_, rfl⟩
          refine lv_iinc (v := x92) (lv' := [(8, .int x92), (6, .long x89), (0, .ref (oA z i)), (1, .ref (oA z j)), (2, .ref (oA z k)), (3, .int x3), (4, .ref (oA z a)), (5, .ref (oA z b))]) hx hb d_B_setDifference_92 hl (k := 7) rfl (by rw [ex92]) (by decide) rfl (fun ls hl => ?_)
          refine lv_goto (tgt := 34) hx hb d_B_setDifference_95 (by decide) ?_
          have a1 : r63 = wd G r q := by rw [e63, sW_n _ _ hib, eG]
          have a2 : x53 = F q := by rw [ex53, sW_n _ _ hia, nI_clamp (by omega), eF]
          have u58 : uN x58 = wn (F q) := by rw [ex58, ex54, a2]; exact uN_w _
          have u70 : uN x70 = wn (wd G r q) := by rw [ex70, ex66, a1]; exact uN_w _
          have w1 := wn_lt (F q)
          have w2 := wn_lt (wd G r q)
          have t58 := uN_int x58
          have t70 := uN_int x70
          rw [if_pos (by omega)] at t58 t70
          have t71 : x71.toInt = (wn (F q) : Int) - wn (wd G r q) := by rw [ex71, Jvm.Kit.i64_sub] <;> omega
          have t72 : x72.toInt = cr.toInt + ((wn (F q) : Int) - wn (wd G r q)) := by rw [ex72, Jvm.Kit.i64_add] <;> omega
          have t89 : x89.toInt = x72.toInt / 4294967296 := by rw [ex89]; exact Jvm.Kit.i64_shr x72 _ (k := 32) (by decide)
          have t83 : (wn x83 : Int) = x72.toInt % 4294967296 := by rw [ex83]; exact wn_l2iZ x72
          rw [← eg84, sW_sW, sW_s, nI_clamp (by omega)] at hU
          rw [ex92, show Int32.ofInt 1 = 1 from rfl, nI_1] at hl
          exact ih (q + 1) _ x89 _ _ ls (by omega) (by
            rw [vl_upds, t89, vl_s, vl_s, Nat.pow_succ]
            exact vl_stepD x72.toInt hI t72 t83) (by rw [t89, t72]; omega) hU (lv_sub hl [2, 3, 4, 5, 6, 7, 1, 0] rfl)
    refine lv_lconst (v := 0) hx hb d_B_setDifference_28 (by decide) ?_
    refine lv_lstore (lv' := [(6, .long 0), (0, .ref (oA z i)), (1, .ref (oA z j)), (2, .ref (oA z k)), (3, .int x3), (4, .ref (oA z a)), (5, .ref (oA z b))]) hx hb d_B_setDifference_29 hl (by decide) rfl (fun ls hl => ?_)
    refine lv_iconst (v := 0) hx hb d_B_setDifference_31 (by decide) ?_
    refine lv_istore (lv' := [(8, .int 0), (6, .long 0), (0, .ref (oA z i)), (1, .ref (oA z j)), (2, .ref (oA z k)), (3, .int x3), (4, .ref (oA z a)), (5, .ref (oA z b))]) hx hb d_B_setDifference_32 hl (by decide) rfl (fun ls hl => ?_)
    exact K n 0 (g.2.2.2 i).2.2 0 _ _ ls (Nat.zero_add n) rfl (Or.inl rfl) (by rw [sW_self]; exact hU) (lv_sub hl [2, 3, 4, 5, 6, 7, 1, 0] rfl)
  refine lv_aload_n hx hb d_B_setDifference_0 rfl (lv_at hl 1 rfl) ?_
  refine lv_aload_n hx hb d_B_setDifference_1 rfl (lv_at hl 2 rfl) ?_
  refine z_calli (z_run (As := [.ref (oA z k)]) (rest := []) hx hb hml hown hts hU hN (c_isLess l z _ g hj hk hok hok2) (w_B_isLess_cw hts k_B_61 rfl rfl ⟨Nat.le_of_ble_eq_true rfl, Nat.le_of_ble_eq_true rfl⟩) (z_recvB hU hj) rfl hl.1 rfl (lv_room (Nat.le_of_ble_eq_true rfl)) d_B_setDifference_2 ⟨Nat.zero_le _, Nat.zero_le _⟩) hU (fun r2 g2 H locs hp2 hU => ?_)
  obtain ⟨e9, e2⟩ := hp2
  rw [e9] at hU
  refine lv_istore_n (lv' := [(3, .int r2), (0, .ref (oA z i)), (1, .ref (oA z j)), (2, .ref (oA z k))]) hx hb d_B_setDifference_5 rfl hl (by decide) rfl (fun ls hl => ?_)
  refine lv_iload_n hx hb d_B_setDifference_6 rfl (lv_at hl 0 rfl) ?_
  refine lv_if_eq (tgt := 14) hx hb d_B_setDifference_7 (by decide) (fun c7 => ?_) (fun c7 => ?_)
  · have h7 : ¬ bv (g.2.2.2 j) < bv (g.2.2.2 k) := fun q => by rw [e2, if_pos q] at c7; exact absurd c7 (by decide)
    refine lv_aload_n hx hb d_B_setDifference_14 rfl (lv_at hl 2 rfl) ?_
    refine lv_astore (lv' := [(4, .ref (oA z j)), (3, .int r2), (0, .ref (oA z i)), (1, .ref (oA z j)), (2, .ref (oA z k))]) hx hb d_B_setDifference_15 hl (by decide) rfl (fun ls hl => ?_)
    refine lv_iload_n hx hb d_B_setDifference_17 rfl (lv_at hl 1 rfl) ?_
    refine lv_if_eq (tgt := 25) hx hb d_B_setDifference_18 (by decide) (fun c18 => ?_) (fun c18 => ?_)
    · refine lv_aload_n hx hb d_B_setDifference_25 rfl (lv_at hl 4 rfl) ?_
      refine lv_astore (lv' := [(5, .ref (oA z k)), (4, .ref (oA z j)), (3, .int r2), (0, .ref (oA z i)), (1, .ref (oA z j)), (2, .ref (oA z k))]) hx hb d_B_setDifference_26 hl (by decide) rfl (fun ls hl => ?_)
      exact E j k _ _ _ ls hj hk hij hik hok hok2 (Nat.le_of_not_lt h7) (by rw [e2, if_neg h7]; exact Or.inl rfl) e2 (by rw [if_neg h7]) hU (lv_sub hl [3, 4, 5, 2, 1, 0] rfl)
    · exact absurd c7 c18
  · have h7 : bv (g.2.2.2 j) < bv (g.2.2.2 k) := Classical.byContradiction fun q => c7 (by rw [e2, if_neg q])
    refine lv_aload_n hx hb d_B_setDifference_10 rfl (lv_at hl 3 rfl) ?_
    refine lv_goto (tgt := 15) hx hb d_B_setDifference_11 (by decide) ?_
    refine lv_astore (lv' := [(4, .ref (oA z k)), (3, .int r2), (0, .ref (oA z i)), (1, .ref (oA z j)), (2, .ref (oA z k))]) hx hb d_B_setDifference_15 hl (by decide) rfl (fun ls hl => ?_)
    refine lv_iload_n hx hb d_B_setDifference_17 rfl (lv_at hl 1 rfl) ?_
    refine lv_if_eq (tgt := 25) hx hb d_B_setDifference_18 (by decide) (fun c18 => ?_) (fun c18 => ?_)
    · exact absurd c18 c7
    · refine lv_aload_n hx hb d_B_setDifference_21 rfl (lv_at hl 3 rfl) ?_
      refine lv_goto (tgt := 26) hx hb d_B_setDifference_22 (by decide) ?_
      refine lv_astore (lv' := [(5, .ref (oA z j)), (4, .ref (oA z k)), (3, .int r2), (0, .ref (oA z i)), (1, .ref (oA z j)), (2, .ref (oA z k))]) hx hb d_B_setDifference_26 hl (by decide) rfl (fun ls hl => ?_)
      exact E k j _ _ _ ls hk hj hik hij hok2 hok (Nat.le_of_lt h7) (by rw [e2, if_pos h7]; exact Or.inr rfl) e2 (by rw [if_pos h7]) hU (lv_sub hl [3, 4, 5, 2, 1, 0] rfl)
set_option maxHeartbeats 4000000 in
set_option maxRecDepth 100000 in
theorem c_halve (l : Launch) (z : ZZ) (sz : Nat) (g : St) {i : Nat} (hi : i < 10) (hok : bOk (g.2.2.2 i)) : Met l y_B_halve (zw y_B_halve b_B_halve 2 none) { frames := 1, cells := 0, slots := 0, locals := 23 } (va_Pc [.ref (oA z i)] (zI z g sz)) (va_Qv (fun g2 => ∃ b, g2 = sG g i b ∧ bOk b ∧ b.2.1 = (g.2.2.2 i).2.1 ∧ bv b = bv (g.2.2.2 i) / 2) (zO z sz) (zA z sz)) 0 0 (zA z sz) := by
  refine z_ofW (by decide) (Nat.le_of_ble_eq_true rfl) (fun p e s m below meth c hx hb hr hml hown hts hlocks hname hsz hN ls hU hl => ?_)
  have hl : lv_has ls 2 [(0, .ref (oA z i))] := hl
  obtain ⟨n, hn, hn1, hbel, htop⟩ := hok
  have hbv : bv (g.2.2.2 i) = vl (g.2.2.2 i).2.2 n := bv_of hn hn1
  generalize eF : (g.2.2.2 i).2.2 = F at hbv htop
  have K : ∀ (d q : Nat) (f : Nat → Int32) (H : Heap) (locs : List Loc) (ls : Array Slot), q + d = n → 2 * vl f q + wn (wd F n 0) % 2 = vl F q + wn (wd F n q) % 2 * 4294967296 ^ q → (∀ t, q ≤ t → f t = F t) → Ws z (sW g i f) s.heap H locs s → lv_has ls 2 [(0, .ref (oA z i)), (1, .int (nI q))] → W p l e ({ frames := 1, cells := 0, slots := 0, locals := 23 } : Room) s m ([.ref (oA z i)] : List Value).toArray below meth c H locs 0 0 (MQ below (va_Qv (fun g2 => ∃ b, g2 = sG g i b ∧ bOk b ∧ b.2.1 = (g.2.2.2 i).2.1 ∧ bv b = bv (g.2.2.2 i) / 2) (zO z sz) (zA z sz)) ([.ref (oA z i)] : List Value).toArray s 0 0 (zA z sz)) (F0 m 2 ls []) := by
    intro d
    induction d with
    | zero =>
      intro q f H locs ls hq hI hf hU hl
      have hq : q = n := by omega
      subst hq
      refine lv_iload_n hx hb d_B_halve_2 rfl (lv_at hl 1 rfl) ?_
      refine lv_aload_n hx hb d_B_halve_3 rfl (lv_at hl 0 rfl) ?_
      refine va_get (D := z.1) (ci := 2) (v := .int (((sW g i f).2.2.2 i).1)) (C := R_B) (T := F_B) (N := 3) hx hb hts in_B hown hU.2.1 hU.1 (2 + 2 * i) (uw_o z (sW g i f) hi) rfl 1 (by decide) (hts _ k_B_23) (fun _ h9 => h9) rfl d_B_halve_4 ?_
      refine lv_topi (fun x4 ex4 => ?_)
      have e4 : x4 = nI q := by rw [ex4, sW_s]; exact hn1
      refine lv_icmp_ge (tgt := 41) hx hb d_B_halve_7 (by decide) (fun c7 => ?_) (fun c7 => ?_)
      · refine lv_aload_n hx hb d_B_halve_41 rfl (lv_at hl 0 rfl) ?_
        refine lv_aload_n hx hb d_B_halve_42 rfl (lv_at hl 0 rfl) ?_
        refine va_get (D := z.1) (ci := 2) (v := .int (((sW g i f).2.2.2 i).1)) (C := R_B) (T := F_B) (N := 3) hx hb hts in_B hown hU.2.1 hU.1 (2 + 2 * i) (uw_o z (sW g i f) hi) rfl 1 (by decide) (hts _ k_B_23) (fun _ h9 => h9) rfl d_B_halve_43 ?_
        refine lv_topi (fun x43 ex43 => ?_)
        refine lv_lconst (v := 0) hx hb d_B_halve_46 (by decide) ?_
        have e43 : x43 = nI q := by rw [ex43, sW_s]; exact hn1
        rw [e43]
        refine z_callv (z_run (As := [.int (nI q), .long 0]) (rest := []) hx hb hml hown hts hU hN (c_close l z _ (sW g i f) hi (by rw [sW_s]; exact hbel) hn 0) (w_B_close_cw hts k_B_19 rfl rfl ⟨Nat.le_of_ble_eq_true rfl, Nat.le_of_ble_eq_true rfl⟩) (z_recvB hU hi) rfl hl.1 rfl (lv_room (Nat.le_of_ble_eq_true rfl)) d_B_halve_47 ⟨Nat.zero_le _, Nat.zero_le _⟩) hU (fun g3 H locs hp hU => ?_)
        obtain ⟨b9, rfl, hb1, hb2, hb3⟩ := hp
        rw [sW_eq, sG_sG] at hU
        exact z_vret hx hb hr hlocks hsz hU ⟨b9, rfl, hb1, by rw [hb2, sW_s], by
          rw [hb3, sW_s, uN_0, Nat.zero_mod, Nat.zero_mul, Nat.add_zero, hbv]
          show vl f q % MM = _
          rw [Nat.mod_eq_of_lt (vl_ltM f hn)]
          rw [wd_ge (Nat.le_refl q), wn_0] at hI
          omega⟩ d_B_halve_50
      · exact absurd (by rw [e4]; exact Int32.le_refl _) c7
    | succ d ih =>
      intro q f H locs ls hq hI hf hU hl
      refine lv_iload_n hx hb d_B_halve_2 rfl (lv_at hl 1 rfl) ?_
      refine lv_aload_n hx hb d_B_halve_3 rfl (lv_at hl 0 rfl) ?_
      refine va_get (D := z.1) (ci := 2) (v := .int (((sW g i f).2.2.2 i).1)) (C := R_B) (T := F_B) (N := 3) hx hb hts in_B hown hU.2.1 hU.1 (2 + 2 * i) (uw_o z (sW g i f) hi) rfl 1 (by decide) (hts _ k_B_23) (fun _ h9 => h9) rfl d_B_halve_4 ?_
      refine lv_topi (fun x4 ex4 => ?_)
      have e4 : x4 = nI n := by rw [ex4, sW_s]; exact hn1
      refine lv_icmp_ge (tgt := 41) hx hb d_B_halve_7 (by decide) (fun c7 => ?_) (fun c7 => ?_)
      · exact absurd (by rw [e4] at c7; exact c7) (nI_ge (by omega) (by omega))
      · have hin20 : vp_in (nI q) 512 := vp_in_nI (by omega) (by decide)
        have hin34 := hin20
        refine lv_aload_n hx hb d_B_halve_10 rfl (lv_at hl 0 rfl) ?_
        refine va_get (D := z.1) (ci := 2) (v := .ref (rA z i)) (C := R_B) (T := F_B) (N := 3) hx hb hts in_B hown hU.2.1 hU.1 (2 + 2 * i) (uw_o z (sW g i f) hi) rfl 0 (by decide) (hts _ k_B_9) (fun _ h9 => h9) rfl d_B_halve_11 ?_
        refine lv_iload_n hx hb d_B_halve_14 rfl (lv_at hl 1 rfl) ?_
        refine lv_aload_n hx hb d_B_halve_15 rfl (lv_at hl 0 rfl) ?_
        refine va_get (D := z.1) (ci := 2) (v := .ref (rA z i)) (C := R_B) (T := F_B) (N := 3) hx hb hts in_B hown hU.2.1 hU.1 (2 + 2 * i) (uw_o z (sW g i f) hi) rfl 0 (by decide) (hts _ k_B_9) (fun _ h9 => h9) rfl d_B_halve_16 ?_
        refine lv_iload_n hx hb d_B_halve_19 rfl (lv_at hl 1 rfl) ?_
        refine va_iald hx hb hU.2.1 hU.1 (3 + 2 * i) i (uw_w z (sW g i f) hi) (zty_a z hi) hin20 d_B_halve_20 ?_
        refine lv_topi (fun x20 ex20 => ?_)
        refine lv_iconst (v := 1) hx hb d_B_halve_21 (by decide) ?_
        refine lv_iushr hx hb d_B_halve_22 rfl ?_
        refine lv_topi (fun x22 ex22 => ?_)
        refine lv_aload_n hx hb d_B_halve_23 rfl (lv_at hl 0 rfl) ?_
        refine lv_iload_n hx hb d_B_halve_24 rfl (lv_at hl 1 rfl) ?_
        refine lv_iconst (v := 1) hx hb d_B_halve_25 (by decide) ?_
        refine lv_iadd hx hb d_B_halve_26 ?_
        refine lv_topi (fun x26 ex26 => ?_)
        have e26 : x26 = nI (q + 1) := by rw [ex26]; exact nI_1 q
        rw [e26]
        refine z_calli (z_run (As := [.int (nI (q + 1))]) (rest := [.int x22, .int (nI q), .ref (rA z i)]) hx hb hml hown hts hU hN (c_wordAt l z _ (sW g i f) hi hn (by rw [sW_s]; exact hn1) (K := q + 1) (by omega)) (w_B_wordAt_cw hts k_B_58 rfl rfl ⟨Nat.le_of_ble_eq_true rfl, Nat.le_of_ble_eq_true rfl⟩) (z_recvB hU hi) rfl hl.1 rfl (lv_room (Nat.le_of_ble_eq_true rfl)) d_B_halve_27 ⟨Nat.zero_le _, Nat.zero_le _⟩) hU (fun r27 g27 H locs hp27 hU => ?_)
        obtain ⟨rfl, e27⟩ := hp27
        refine lv_bipush (v := 31) hx hb d_B_halve_30 (by decide) ?_
        refine lv_ishl hx hb d_B_halve_32 ?_
        refine lv_topi (fun x32 ex32 => ?_)
        refine lv_ior hx hb d_B_halve_33 ?_
        refine lv_topi (fun x33 ex33 => ?_)
        refine z_iast hx hb hU hi hin34 d_B_halve_34 (fun H locs hU => ?_)
        generalize eg34 : sW (sW g i f) i (upd ((sW g i f).2.2.2 i).2.2 (nI q).toNatClampNeg x33) = g34 at hU
        obtain ⟨x35, ex35⟩ : ∃ y : Int32, y = (nI q) + Int32.ofInt 1 := ⟨_, rfl⟩
        refine lv_iinc (v := x35) (lv' := [(1, .int x35), (0, .ref (oA z i))]) hx hb d_B_halve_35 hl (k := 1) rfl (by rw [ex35]) (by decide) rfl (fun ls hl => ?_)
        refine lv_goto (tgt := 2) hx hb d_B_halve_38 (by decide) ?_
        have a1 : r27 = wd F n (q + 1) := by
          rw [e27, sW_s]
          show wd f n (q + 1) = wd F n (q + 1)
          unfold wd
          rw [hf (q + 1) (by omega)]
        have a2 : x20 = F q := by
          rw [ex20, sW_s, nI_clamp (by omega)]
          exact hf q (Nat.le_refl q)
        have a3 : wn x33 = wn (F q) / 2 + wn (wd F n (q + 1)) % 2 * 2147483648 := by rw [ex33, ex32, ex22, a2, a1]; exact wn_halve _ _
        rw [← eg34, sW_sW, sW_s, nI_clamp (by omega)] at hU
        rw [ex35, show Int32.ofInt 1 = 1 from rfl, nI_1] at hl
        exact ih (q + 1) _ _ _ ls (by omega) (by
          rw [vl_upds, a3, vl_s, Nat.pow_succ]
          rw [wd_lt (show q < n by omega)] at hI
          exact vl_stepH hI) (fun t ht => by rw [pk_un (by omega)]; exact hf t (by omega)) hU (lv_sub hl [1, 0] rfl)
  refine lv_iconst (v := 0) hx hb d_B_halve_0 (by decide) ?_
  refine lv_istore_n (lv' := [(1, .int 0), (0, .ref (oA z i))]) hx hb d_B_halve_1 rfl hl (by decide) rfl (fun ls hl => ?_)
  exact K n 0 F _ _ ls (Nat.zero_add n) (by show 2 * 0 + _ = 0 + _ * 1; omega) (fun _ _ => rfl) (by rw [← eF, sW_self]; exact hU) (lv_sub hl [1, 0] rfl)
set_option maxHeartbeats 4000000 in
set_option maxRecDepth 100000 in
theorem c_addSmall (l : Launch) (z : ZZ) (sz : Nat) (g : St) {i : Nat} (hi : i < 10) (hok : bOk (g.2.2.2 i)) {v : Nat} (hv : v < 2 ^ 31) : Met l y_B_addSmall (zw y_B_addSmall b_B_addSmall 5 none) { frames := 1, cells := 0, slots := 0, locals := 23 } (va_Pc [.ref (oA z i), .int (nI v)] (zI z g sz)) (va_Qv (fun g2 => ∃ b, g2 = sG g i b ∧ bOk b ∧ b.2.1 = (g.2.2.2 i).2.1 ∧ bv b = (bv (g.2.2.2 i) + v) % MM) (zO z sz) (zA z sz)) 0 0 (zA z sz) := by
  refine z_ofW (by decide) (Nat.le_of_ble_eq_true rfl) (fun p e s m below meth c hx hb hr hml hown hts hlocks hname hsz hN ls hU hl => ?_)
  have hl : lv_has ls 5 [(0, .ref (oA z i)), (1, .int (nI v))] := hl
  obtain ⟨n, hn, hn1, hbel, htop⟩ := hok
  have hbv : bv (g.2.2.2 i) = vl (g.2.2.2 i).2.2 n := bv_of hn hn1
  generalize eF : (g.2.2.2 i).2.2 = F at hbv htop
  have E : ∀ (q : Nat) (f : Nat → Int32) (cr : Int64) (H : Heap) (locs : List Loc) (ls : Array Slot), q ≤ n → (q = n ∨ cr = 0) → vl f q + uN cr * 4294967296 ^ q = vl F q + v → uN cr < 4294967296 → (∀ t, q ≤ t → f t = F t) → Ws z (sW g i f) s.heap H locs s → lv_has ls 5 [(0, .ref (oA z i)), (1, .int (nI v)), (2, .long cr), (4, .int (nI q))] → W p l e ({ frames := 1, cells := 0, slots := 0, locals := 23 } : Room) s m ([.ref (oA z i), .int (nI v)] : List Value).toArray below meth c H locs 0 0 (MQ below (va_Qv (fun g2 => ∃ b, g2 = sG g i b ∧ bOk b ∧ b.2.1 = (g.2.2.2 i).2.1 ∧ bv b = (bv (g.2.2.2 i) + v) % MM) (zO z sz) (zA z sz)) ([.ref (oA z i), .int (nI v)] : List Value).toArray s 0 0 (zA z sz)) (F0 m 56 ls []) := by
    intro q f cr H locs ls hq hqn hI hc hf hU hl
    refine lv_aload_n hx hb d_B_addSmall_56 rfl (lv_at hl 0 rfl) ?_
    refine lv_aload_n hx hb d_B_addSmall_57 rfl (lv_at hl 0 rfl) ?_
    refine va_get (D := z.1) (ci := 2) (v := .int (((sW g i f).2.2.2 i).1)) (C := R_B) (T := F_B) (N := 3) hx hb hts in_B hown hU.2.1 hU.1 (2 + 2 * i) (uw_o z (sW g i f) hi) rfl 1 (by decide) (hts _ k_B_23) (fun _ h9 => h9) rfl d_B_addSmall_58 ?_
    refine lv_topi (fun x58 ex58 => ?_)
    refine lv_lload_n hx hb d_B_addSmall_61 rfl (lv_at hl 2 rfl) ?_
    have e58 : x58 = nI n := by rw [ex58, sW_s]; exact hn1
    rw [e58]
    refine z_callv (z_run (As := [.int (nI n), .long cr]) (rest := []) hx hb hml hown hts hU hN (c_close l z _ (sW g i f) hi (by rw [sW_s]; exact hbel) hn cr) (w_B_close_cw hts k_B_19 rfl rfl ⟨Nat.le_of_ble_eq_true rfl, Nat.le_of_ble_eq_true rfl⟩) (z_recvB hU hi) rfl hl.1 rfl (lv_room (Nat.le_of_ble_eq_true rfl)) d_B_addSmall_62 ⟨Nat.zero_le _, Nat.zero_le _⟩) hU (fun g3 H locs hp hU => ?_)
    obtain ⟨b9, rfl, hb1, hb2, hb3⟩ := hp
    rw [sW_eq, sG_sG] at hU
    have hvn : vl f n + vl F q = vl F n + vl f q := vl_tail hq (fun t h1 _ => hf t h1)
    exact z_vret hx hb hr hlocks hsz hU ⟨b9, rfl, hb1, by rw [hb2, sW_s], by
      rw [hb3, sW_s, Nat.mod_eq_of_lt hc, hbv]
      show (vl f n + uN cr * 4294967296 ^ n) % MM = _
      congr 1
      rcases hqn with h | h
      · subst h; exact hI
      · rw [h, uN_0, Nat.zero_mul] at hI ⊢
        omega⟩ d_B_addSmall_65
  have K : ∀ (d q : Nat) (f : Nat → Int32) (cr : Int64) (H : Heap) (locs : List Loc) (ls : Array Slot), q + d = n → vl f q + uN cr * 4294967296 ^ q = vl F q + v → uN cr < 4294967296 → (∀ t, q ≤ t → f t = F t) → Ws z (sW g i f) s.heap H locs s → lv_has ls 5 [(0, .ref (oA z i)), (1, .int (nI v)), (2, .long cr), (4, .int (nI q))] → W p l e ({ frames := 1, cells := 0, slots := 0, locals := 23 } : Room) s m ([.ref (oA z i), .int (nI v)] : List Value).toArray below meth c H locs 0 0 (MQ below (va_Qv (fun g2 => ∃ b, g2 = sG g i b ∧ bOk b ∧ b.2.1 = (g.2.2.2 i).2.1 ∧ bv b = (bv (g.2.2.2 i) + v) % MM) (zO z sz) (zA z sz)) ([.ref (oA z i), .int (nI v)] : List Value).toArray s 0 0 (zA z sz)) (F0 m 6 ls []) := by
    intro d
    induction d with
    | zero =>
      intro q f cr H locs ls hq hI hc hf hU hl
      refine lv_iload hx hb d_B_addSmall_6 (lv_at hl 3 rfl) ?_
      refine lv_aload_n hx hb d_B_addSmall_8 rfl (lv_at hl 0 rfl) ?_
      refine va_get (D := z.1) (ci := 2) (v := .int (((sW g i f).2.2.2 i).1)) (C := R_B) (T := F_B) (N := 3) hx hb hts in_B hown hU.2.1 hU.1 (2 + 2 * i) (uw_o z (sW g i f) hi) rfl 1 (by decide) (hts _ k_B_23) (fun _ h9 => h9) rfl d_B_addSmall_9 ?_
      refine lv_topi (fun x9 ex9 => ?_)
      have e9 : x9 = nI n := by rw [ex9, sW_s]; exact hn1
      refine lv_icmp_ge (tgt := 56) hx hb d_B_addSmall_12 (by decide) (fun c12 => ?_) (fun c12 => ?_)
      · exact E q f cr _ _ ls (by omega) (Or.inl (by omega)) hI hc hf hU hl
      · exact absurd (by rw [e9, show q = n by omega]; exact Int32.le_refl _) c12
    | succ d ih =>
      intro q f cr H locs ls hq hI hc hf hU hl
      refine lv_iload hx hb d_B_addSmall_6 (lv_at hl 3 rfl) ?_
      refine lv_aload_n hx hb d_B_addSmall_8 rfl (lv_at hl 0 rfl) ?_
      refine va_get (D := z.1) (ci := 2) (v := .int (((sW g i f).2.2.2 i).1)) (C := R_B) (T := F_B) (N := 3) hx hb hts in_B hown hU.2.1 hU.1 (2 + 2 * i) (uw_o z (sW g i f) hi) rfl 1 (by decide) (hts _ k_B_23) (fun _ h9 => h9) rfl d_B_addSmall_9 ?_
      refine lv_topi (fun x9 ex9 => ?_)
      have e9 : x9 = nI n := by rw [ex9, sW_s]; exact hn1
      refine lv_icmp_ge (tgt := 56) hx hb d_B_addSmall_12 (by decide) (fun c12 => ?_) (fun c12 => ?_)
      · exact absurd (by rw [e9] at c12; exact c12) (nI_ge (by omega) (by omega))
      · refine lv_lload_n hx hb d_B_addSmall_15 rfl (lv_at hl 2 rfl) ?_
        refine lv_lconst (v := 0) hx hb d_B_addSmall_16 (by decide) ?_
        refine W.lcmp hx hb d_B_addSmall_17 ?_
        refine lv_if_eq (tgt := 56) hx hb d_B_addSmall_18 (by decide) (fun c18 => ?_) (fun c18 => ?_)
        · exact E q f cr _ _ ls (by omega) (Or.inr ((lg_cmp_eq _ _).mp c18)) hI hc hf hU hl
        · have hin28 : vp_in (nI q) 512 := vp_in_nI (by omega) (by decide)
          have hin44 := hin28
          refine lv_lload_n hx hb d_B_addSmall_21 rfl (lv_at hl 2 rfl) ?_
          refine lv_aload_n hx hb d_B_addSmall_22 rfl (lv_at hl 0 rfl) ?_
          refine va_get (D := z.1) (ci := 2) (v := .ref (rA z i)) (C := R_B) (T := F_B) (N := 3) hx hb hts in_B hown hU.2.1 hU.1 (2 + 2 * i) (uw_o z (sW g i f) hi) rfl 0 (by decide) (hts _ k_B_9) (fun _ h9 => h9) rfl d_B_addSmall_23 ?_
          refine lv_iload hx hb d_B_addSmall_26 (lv_at hl 3 rfl) ?_
          refine va_iald hx hb hU.2.1 hU.1 (3 + 2 * i) i (uw_w z (sW g i f) hi) (zty_a z hi) hin28 d_B_addSmall_28 ?_
          refine lv_topi (fun x28 ex28 => ?_)
          refine lv_i2l hx hb d_B_addSmall_29 rfl ?_
          refine lv_topl (fun x29 ex29 => ?_)
          refine lv_ldc2 (v := 4294967295) hx hb hown (hts _ k_B_39) d_B_addSmall_30 ?_
          refine lv_land hx hb d_B_addSmall_33 ?_
          refine lv_topl (fun x33 ex33 => ?_)
          refine lv_ladd hx hb d_B_addSmall_34 ?_
          refine lv_topl (fun x34 ex34 => ?_)
          refine lv_lstore_n (lv' := [(2, .long x34), (0, .ref (oA z i)), (1, .int (nI v)), (4, .int (nI q))]) hx hb d_B_addSmall_35 rfl hl (by decide) rfl (fun ls hl => ?_)
          refine lv_aload_n hx hb d_B_addSmall_36 rfl (lv_at hl 1 rfl) ?_
          refine va_get (D := z.1) (ci := 2) (v := .ref (rA z i)) (C := R_B) (T := F_B) (N := 3) hx hb hts in_B hown hU.2.1 hU.1 (2 + 2 * i) (uw_o z (sW g i f) hi) rfl 0 (by decide) (hts _ k_B_9) (fun _ h9 => h9) rfl d_B_addSmall_37 ?_
          refine lv_iload hx hb d_B_addSmall_40 (lv_at hl 3 rfl) ?_
          refine lv_lload_n hx hb d_B_addSmall_42 rfl (lv_at hl 0 rfl) ?_
          refine lv_l2i hx hb d_B_addSmall_43 rfl ?_
          refine lv_topi (fun x43 ex43 => ?_)
          refine z_iast hx hb hU hi hin44 d_B_addSmall_44 (fun H locs hU => ?_)
          generalize eg44 : sW (sW g i f) i (upd ((sW g i f).2.2.2 i).2.2 (nI q).toNatClampNeg x43) = g44 at hU
          refine lv_lload_n hx hb d_B_addSmall_45 rfl (lv_at hl 0 rfl) ?_
          refine lv_bipush (v := 32) hx hb d_B_addSmall_46 (by decide) ?_
          refine lv_lushr hx hb d_B_addSmall_48 rfl ?_
          refine lv_topl (fun x48 ex48 => ?_)
          refine lv_lstore_n (lv' := [(2, .long x48), (0, .ref (oA z i)), (1, .int (nI v)), (4, .int (nI q))]) hx hb d_B_addSmall_49 rfl hl (by decide) rfl (fun ls hl => ?_)
          obtain ⟨x50, ex50⟩ : ∃ y : Int32, y = (nI q) + Int32.ofInt 1 := ⟨_, rfl⟩
          refine lv_iinc (v := x50) (lv' := [(4, .int x50), (2, .long x48), (0, .ref (oA z i)), (1, .int (nI v))]) hx hb d_B_addSmall_50 hl (k := 3) rfl (by rw [ex50]) (by decide) rfl (fun ls hl => ?_)
          refine lv_goto (tgt := 6) hx hb d_B_addSmall_53 (by decide) ?_
          have a2 : x28 = F q := by
            rw [ex28, sW_s, nI_clamp (by omega)]
            exact hf q (Nat.le_refl q)
          have u33 : uN x33 = wn (F q) := by rw [ex33, ex29, a2]; exact uN_w _
          have w1 := wn_lt (F q)
          have u34 : uN x34 = uN cr + (wn (F q) + 0) := by
            rw [ex34, uN_add', u33]
            · rfl
            · rw [u33]; omega
          have u48 : uN x48 = uN x34 / 4294967296 := by rw [ex48]; exact uN_s32 _
          rw [← eg44, sW_sW, sW_s, nI_clamp (by omega)] at hU
          rw [ex50, show Int32.ofInt 1 = 1 from rfl, nI_1] at hl
          exact ih (q + 1) _ x48 _ _ ls (by omega) (by
            rw [vl_upds, ex43, wn_l2i, u48, Nat.pow_succ, vl_s]
            refine (vl_stepA (uN x34) hI u34).trans ?_
            omega) (by rw [u48]; omega) (fun t ht => by rw [pk_un (by omega)]; exact hf t (by omega)) hU (lv_sub hl [2, 3, 1, 0] rfl)
  refine lv_iload_n hx hb d_B_addSmall_0 rfl (lv_at hl 1 rfl) ?_
  refine lv_i2l hx hb d_B_addSmall_1 rfl ?_
  refine lv_topl (fun x1 ex1 => ?_)
  refine lv_lstore_n (lv' := [(2, .long x1), (0, .ref (oA z i)), (1, .int (nI v))]) hx hb d_B_addSmall_2 rfl hl (by decide) rfl (fun ls hl => ?_)
  refine lv_iconst (v := 0) hx hb d_B_addSmall_3 (by decide) ?_
  refine lv_istore (lv' := [(4, .int 0), (2, .long x1), (0, .ref (oA z i)), (1, .int (nI v))]) hx hb d_B_addSmall_4 hl (by decide) rfl (fun ls hl => ?_)
  have u1 : uN x1 = v := by rw [ex1]; exact uN_nI hv
  exact K n 0 F x1 _ _ ls (Nat.zero_add n) (by rw [u1]; show 0 + v * 1 = 0 + v; omega) (by omega) (fun _ _ => rfl) (by rw [← eF, sW_self]; exact hU) (lv_sub hl [2, 3, 1, 0] rfl)
