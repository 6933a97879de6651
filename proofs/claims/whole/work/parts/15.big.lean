/-! UnitFinder$Big, method by method -/
def bOk (b : BS) : Prop := ∃ n : Nat, n ≤ 512 ∧ b.1 = nI n ∧ (b.2.1 = 0 ∨ b.2.1 = 1) ∧ (n = 0 ∨ wn (b.2.2 (n - 1)) ≠ 0)
def bv (b : BS) : Nat := vl b.2.2 b.1.toNatClampNeg
def bz (b : BS) : Int := if b.2.1 = 0 then (bv b : Int) else -(bv b : Int)
def bsg (b : BS) : Int32 := if bv b = 0 then 0 else if b.2.1 = 0 then 1 else -1
theorem bv_of {b : BS} {n : Nat} (hn : n ≤ 512) (h : b.1 = nI n) : bv b = vl b.2.2 n := by rw [bv, h, nI_clamp (by omega)]
theorem vl_pos {f : Nat → Int32} {n : Nat} (h : 0 < n) (ht : wn (f (n - 1)) ≠ 0) : vl f n ≠ 0 := by
  obtain ⟨k, rfl⟩ : ∃ k, n = k + 1 := ⟨n - 1, by omega⟩
  rw [vl_s]
  rw [Nat.add_sub_cancel] at ht
  have h1 : 0 < wn (f k) * 4294967296 ^ k := Nat.mul_pos (Nat.pos_of_ne_zero ht) (pB k)
  omega
/-- a row of n words, nothing above -/
def wd (f : Nat → Int32) (n : Nat) : Nat → Int32 := fun k => if k < n then f k else 0
theorem wd_lt {f : Nat → Int32} {n k : Nat} (h : k < n) : wd f n k = f k := if_pos h
theorem wd_ge {f : Nat → Int32} {n k : Nat} (h : n ≤ k) : wd f n k = 0 := if_neg (by omega)
theorem vl_wdl {f : Nat → Int32} {n k : Nat} (h : k ≤ n) : vl (wd f n) k = vl f k := vl_congr fun j hj => wd_lt (by omega)
theorem vl_wd {f : Nat → Int32} {n : Nat} : ∀ {k : Nat}, n ≤ k → vl (wd f n) k = vl f n := by
  intro k
  induction k with
  | zero => intro h; rw [Nat.le_zero.mp h]; rfl
  | succ k ih =>
    intro h
    rcases Nat.lt_or_ge k n with h1 | h1
    · rw [show n = k + 1 by omega]; exact vl_wdl (Nat.le_refl _)
    · rw [vl_s, wd_ge h1, wn_0, Nat.zero_mul, Nat.add_zero]; exact ih h1
set_option maxHeartbeats 4000000 in
set_option maxRecDepth 100000 in
theorem c_wordAt (l : Launch) (z : ZZ) (sz : Nat) (g : St) {i : Nat} (hi : i < 10) {n : Nat} (hn : n ≤ 512) (hn1 : (g.2.2.2 i).1 = nI n) {K : Nat} (hK : K < 2 ^ 31) : Met l y_B_wordAt (zw y_B_wordAt b_B_wordAt 2 (some .int)) { frames := 0, cells := 0, slots := 0, locals := 0 } (va_Pc [.ref (oA z i), .int (nI K)] (zI z g sz)) (va_Qi (fun r g2 => g2 = g ∧ r = wd (g.2.2.2 i).2.2 n K) (zO z sz) (zA z sz)) 0 0 (zA z sz) := by
  refine z_ofW (by decide) (Nat.le_of_ble_eq_true rfl) (fun p e s m below meth c hx hb hr hml hown hts hlocks hname hsz hN ls hU hl => ?_)
  have hl : lv_has ls 2 [(0, .ref (oA z i)), (1, .int (nI K))] := hl
  refine lv_iload_n hx hb d_B_wordAt_0 rfl (lv_at hl 1 rfl) ?_
  refine lv_aload_n hx hb d_B_wordAt_1 rfl (lv_at hl 0 rfl) ?_
  refine va_get (D := z.1) (ci := 2) (v := .int ((g.2.2.2 i).1)) (C := R_B) (T := F_B) (N := 3) hx hb hts in_B hown hU.2.1 hU.1 (2 + 2 * i) (uw_o z g hi) rfl 1 (by decide) (hts _ k_B_23) (fun _ h9 => h9) rfl d_B_wordAt_2 ?_
  refine lv_topi (fun x2 ex2 => ?_)
  refine lv_icmp_ge (tgt := 17) hx hb d_B_wordAt_5 (by decide) (fun c5 => ?_) (fun c5 => ?_)
  · have h5 : n ≤ K := (nI_leI (by omega) hK).mp (by rw [← hn1, ← ex2]; exact c5)
    refine lv_iconst (v := 0) hx hb d_B_wordAt_17 (by decide) ?_
    exact z_iret hx hb hr hlocks hsz hU ⟨rfl, (wd_ge h5).symm⟩ d_B_wordAt_18
  · have h5 : K < n := Nat.lt_of_not_le (fun q => c5 (by rw [ex2, hn1]; exact (nI_leI (by omega) hK).mpr q))
    have hin13 : vp_in (nI K) 512 := vp_in_nI (by omega) (by omega)
    refine lv_aload_n hx hb d_B_wordAt_8 rfl (lv_at hl 0 rfl) ?_
    refine va_get (D := z.1) (ci := 2) (v := .ref (rA z i)) (C := R_B) (T := F_B) (N := 3) hx hb hts in_B hown hU.2.1 hU.1 (2 + 2 * i) (uw_o z g hi) rfl 0 (by decide) (hts _ k_B_9) (fun _ h9 => h9) rfl d_B_wordAt_9 ?_
    refine lv_iload_n hx hb d_B_wordAt_12 rfl (lv_at hl 1 rfl) ?_
    refine va_iald hx hb hU.2.1 hU.1 (3 + 2 * i) i (uw_w z g hi) (zty_a z hi) hin13 d_B_wordAt_13 ?_
    refine lv_topi (fun x13 ex13 => ?_)
    refine lv_goto (tgt := 18) hx hb d_B_wordAt_14 (by decide) ?_
    exact z_iret hx hb hr hlocks hsz hU ⟨rfl, by rw [ex13, nI_clamp hK, wd_lt h5]⟩ d_B_wordAt_18
set_option maxHeartbeats 4000000 in
set_option maxRecDepth 100000 in
theorem c_signum (l : Launch) (z : ZZ) (sz : Nat) (g : St) {i : Nat} (hi : i < 10) (hok : bOk (g.2.2.2 i)) : Met l y_B_signum (zw y_B_signum b_B_signum 1 (some .int)) { frames := 0, cells := 0, slots := 0, locals := 0 } (va_Pc [.ref (oA z i)] (zI z g sz)) (va_Qi (fun r g2 => g2 = g ∧ r = bsg (g.2.2.2 i)) (zO z sz) (zA z sz)) 0 0 (zA z sz) := by
  refine z_ofW (by decide) (Nat.le_of_ble_eq_true rfl) (fun p e s m below meth c hx hb hr hml hown hts hlocks hname hsz hN ls hU hl => ?_)
  have hl : lv_has ls 1 [(0, .ref (oA z i))] := hl
  obtain ⟨n, hn, hn1, hbel, htop⟩ := hok
  have hbv : bv (g.2.2.2 i) = vl (g.2.2.2 i).2.2 n := bv_of hn hn1
  refine lv_aload_n hx hb d_B_signum_0 rfl (lv_at hl 0 rfl) ?_
  refine va_get (D := z.1) (ci := 2) (v := .int ((g.2.2.2 i).1)) (C := R_B) (T := F_B) (N := 3) hx hb hts in_B hown hU.2.1 hU.1 (2 + 2 * i) (uw_o z g hi) rfl 1 (by decide) (hts _ k_B_23) (fun _ h9 => h9) rfl d_B_signum_1 ?_
  refine lv_topi (fun x1 ex1 => ?_)
  refine lv_if_ne (tgt := 9) hx hb d_B_signum_4 (by decide) (fun c4 => ?_) (fun c4 => ?_)
  · have h4 : 0 < n := Nat.pos_of_ne_zero (fun q => c4 (by rw [ex1, hn1, q]; rfl))
    have h4b : bv (g.2.2.2 i) ≠ 0 := by rw [hbv]; exact vl_pos h4 (htop.resolve_left (by omega))
    refine lv_aload_n hx hb d_B_signum_9 rfl (lv_at hl 0 rfl) ?_
    refine va_get (D := z.1) (ci := 2) (v := .int ((g.2.2.2 i).2.1)) (C := R_B) (T := F_B) (N := 3) hx hb hts in_B hown hU.2.1 hU.1 (2 + 2 * i) (uw_o z g hi) rfl 2 (by decide) (hts _ k_B_15) (fun _ h9 => h9) rfl d_B_signum_10 ?_
    refine lv_topi (fun x10 ex10 => ?_)
    refine lv_if_eq (tgt := 20) hx hb d_B_signum_13 (by decide) (fun c13 => ?_) (fun c13 => ?_)
    · have h13 : (g.2.2.2 i).2.1 = 0 := by rw [← ex10]; exact c13
      refine lv_iconst (v := 1) hx hb d_B_signum_20 (by decide) ?_
      exact z_iret hx hb hr hlocks hsz hU ⟨rfl, by rw [bsg, if_neg h4b, if_pos h13]⟩ d_B_signum_21
    · have h13 : ¬ (g.2.2.2 i).2.1 = 0 := by rw [← ex10]; exact c13
      refine lv_iconst (v := (-1)) hx hb d_B_signum_16 (by decide) ?_
      refine lv_goto (tgt := 21) hx hb d_B_signum_17 (by decide) ?_
      exact z_iret hx hb hr hlocks hsz hU ⟨rfl, by rw [bsg, if_neg h4b, if_neg h13]⟩ d_B_signum_21
  · have h4 : n = 0 := by
      have q : nI n = 0 := by rw [← hn1, ← ex1]; exact c4
      exact Nat.eq_zero_of_not_pos (fun h => nI_ne0 h (by omega) q)
    have h4b : bv (g.2.2.2 i) = 0 := by rw [hbv, h4]; rfl
    refine lv_iconst (v := 0) hx hb d_B_signum_7 (by decide) ?_
    exact z_iret hx hb hr hlocks hsz hU ⟨rfl, by rw [bsg, if_pos h4b]⟩ d_B_signum_8
set_option maxHeartbeats 4000000 in
set_option maxRecDepth 100000 in
theorem c_close (l : Launch) (z : ZZ) (sz : Nat) (g : St) {i : Nat} (hi : i < 10) (hbel : (g.2.2.2 i).2.1 = 0 ∨ (g.2.2.2 i).2.1 = 1) {n : Nat} (hn : n ≤ 512) (cr : Int64) : Met l y_B_close (zw y_B_close b_B_close 4 none) { frames := 0, cells := 0, slots := 0, locals := 0 } (va_Pc [.ref (oA z i), .int (nI n), .long cr] (zI z g sz)) (va_Qv (fun g2 => ∃ b, g2 = sG g i b ∧ bOk b ∧ b.2.1 = (g.2.2.2 i).2.1 ∧ bv b = (vl (g.2.2.2 i).2.2 n + uN cr % 4294967296 * 4294967296 ^ n) % MM) (zO z sz) (zA z sz)) 0 0 (zA z sz) := by
  refine z_ofW (by decide) (Nat.le_of_ble_eq_true rfl) (fun p e s m below meth c hx hb hr hml hown hts hlocks hname hsz hN ls hU hl => ?_)
  have hl : lv_has ls 4 [(0, .ref (oA z i)), (1, .int (nI n)), (2, .long cr)] := hl
  have K : ∀ (k : Nat) (f : Nat → Int32) (H : Heap) (locs : List Loc) (ls : Array Slot), k ≤ 512 → vl f k = (vl (g.2.2.2 i).2.2 n + uN cr % 4294967296 * 4294967296 ^ n) % MM → Ws z (sG g i (nI k, (g.2.2.2 i).2.1, f)) s.heap H locs s → lv_has ls 4 [(0, .ref (oA z i)), (1, .int (nI n)), (2, .long cr)] → W p l e ({ frames := 0, cells := 0, slots := 0, locals := 0 } : Room) s m ([.ref (oA z i), .int (nI n), .long cr] : List Value).toArray below meth c H locs 0 0 (MQ below (va_Qv (fun g2 => ∃ b, g2 = sG g i b ∧ bOk b ∧ b.2.1 = (g.2.2.2 i).2.1 ∧ bv b = (vl (g.2.2.2 i).2.2 n + uN cr % 4294967296 * 4294967296 ^ n) % MM) (zO z sz) (zA z sz)) ([.ref (oA z i), .int (nI n), .long cr] : List Value).toArray s 0 0 (zA z sz)) (F0 m 42 ls []) := by
    intro k
    induction k with
    | zero =>
      intro f H locs ls hk hv hU hl
      have hg1 : ((sG g i (nI 0, (g.2.2.2 i).2.1, f)).2.2.2 i) = (nI 0, (g.2.2.2 i).2.1, f) := sG_s _ _ _
      refine lv_aload_n hx hb d_B_close_42 rfl (lv_at hl 0 rfl) ?_
      refine va_get (D := z.1) (ci := 2) (v := .int (((sG g i (nI 0, (g.2.2.2 i).2.1, f)).2.2.2 i).1)) (C := R_B) (T := F_B) (N := 3) hx hb hts in_B hown hU.2.1 hU.1 (2 + 2 * i) (uw_o z (sG g i (nI 0, (g.2.2.2 i).2.1, f)) hi) rfl 1 (by decide) (hts _ k_B_23) (fun _ h9 => h9) rfl d_B_close_43 ?_
      refine lv_topi (fun x43 ex43 => ?_)
      refine lv_if_le (tgt := 76) hx hb d_B_close_46 (by decide) (fun c46 => ?_) (fun c46 => ?_)
      · exact z_vret hx hb hr hlocks hsz hU ⟨_, rfl, ⟨0, hk, rfl, hbel, Or.inl rfl⟩, rfl, by rw [bv_of (n := 0) hk rfl]; exact hv⟩ d_B_close_76
      · exact absurd (by rw [ex43, hg1]; exact Int32.le_refl _) c46
    | succ k ih =>
      intro f H locs ls hk hv hU hl
      have hg1 : ((sG g i (nI (k + 1), (g.2.2.2 i).2.1, f)).2.2.2 i) = (nI (k + 1), (g.2.2.2 i).2.1, f) := sG_s _ _ _
      refine lv_aload_n hx hb d_B_close_42 rfl (lv_at hl 0 rfl) ?_
      refine va_get (D := z.1) (ci := 2) (v := .int (((sG g i (nI (k + 1), (g.2.2.2 i).2.1, f)).2.2.2 i).1)) (C := R_B) (T := F_B) (N := 3) hx hb hts in_B hown hU.2.1 hU.1 (2 + 2 * i) (uw_o z (sG g i (nI (k + 1), (g.2.2.2 i).2.1, f)) hi) rfl 1 (by decide) (hts _ k_B_23) (fun _ h9 => h9) rfl d_B_close_43 ?_
      refine lv_topi (fun x43 ex43 => ?_)
      refine lv_if_le (tgt := 76) hx hb d_B_close_46 (by decide) (fun c46 => ?_) (fun c46 => ?_)
      · exact absurd (by rw [ex43, hg1] at c46; exact c46) (nI_nle (by omega) (by omega))
      · refine lv_aload_n hx hb d_B_close_49 rfl (lv_at hl 0 rfl) ?_
        refine va_get (D := z.1) (ci := 2) (v := .ref (rA z i)) (C := R_B) (T := F_B) (N := 3) hx hb hts in_B hown hU.2.1 hU.1 (2 + 2 * i) (uw_o z (sG g i (nI (k + 1), (g.2.2.2 i).2.1, f)) hi) rfl 0 (by decide) (hts _ k_B_9) (fun _ h9 => h9) rfl d_B_close_50 ?_
        refine lv_aload_n hx hb d_B_close_53 rfl (lv_at hl 0 rfl) ?_
        refine va_get (D := z.1) (ci := 2) (v := .int (((sG g i (nI (k + 1), (g.2.2.2 i).2.1, f)).2.2.2 i).1)) (C := R_B) (T := F_B) (N := 3) hx hb hts in_B hown hU.2.1 hU.1 (2 + 2 * i) (uw_o z (sG g i (nI (k + 1), (g.2.2.2 i).2.1, f)) hi) rfl 1 (by decide) (hts _ k_B_23) (fun _ h9 => h9) rfl d_B_close_54 ?_
        refine lv_topi (fun x54 ex54 => ?_)
        refine lv_iconst (v := 1) hx hb d_B_close_57 (by decide) ?_
        refine lv_isub hx hb d_B_close_58 ?_
        refine lv_topi (fun x58 ex58 => ?_)
        have e58 : x58 = nI k := by rw [ex58, ex54, hg1]; exact nI_pred k
        have hin59 : vp_in x58 512 := by rw [e58]; exact vp_in_nI (by omega) (by omega)
        refine va_iald hx hb hU.2.1 hU.1 (3 + 2 * i) i (uw_w z (sG g i (nI (k + 1), (g.2.2.2 i).2.1, f)) hi) (zty_a z hi) hin59 d_B_close_59 ?_
        refine lv_topi (fun x59 ex59 => ?_)
        have e59 : x59 = f k := by rw [ex59, e58, nI_clamp (by omega), hg1]
        refine lv_if_ne (tgt := 76) hx hb d_B_close_60 (by decide) (fun c60 => ?_) (fun c60 => ?_)
        · exact z_vret hx hb hr hlocks hsz hU ⟨_, rfl, ⟨k + 1, hk, rfl, hbel, Or.inr (fun q => c60 (by rw [e59]; exact wn_inj (q.trans wn_0.symm)))⟩, rfl, by rw [bv_of (n := k + 1) hk rfl]; exact hv⟩ d_B_close_76
        · have h60 : f k = 0 := by rw [← e59]; exact c60
          refine lv_aload_n hx hb d_B_close_63 rfl (lv_at hl 0 rfl) ?_
          refine lv_dup hx hb d_B_close_64 rfl ?_
          refine va_get (D := z.1) (ci := 2) (v := .int (((sG g i (nI (k + 1), (g.2.2.2 i).2.1, f)).2.2.2 i).1)) (C := R_B) (T := F_B) (N := 3) hx hb hts in_B hown hU.2.1 hU.1 (2 + 2 * i) (uw_o z (sG g i (nI (k + 1), (g.2.2.2 i).2.1, f)) hi) rfl 1 (by decide) (hts _ k_B_23) (fun _ h9 => h9) rfl d_B_close_65 ?_
          refine lv_topi (fun x65 ex65 => ?_)
          refine lv_iconst (v := 1) hx hb d_B_close_68 (by decide) ?_
          refine lv_isub hx hb d_B_close_69 ?_
          refine lv_topi (fun x69 ex69 => ?_)
          refine zp_L hx hb hts hown hU hi (hts _ k_B_23) d_B_close_70 (fun H locs hU => ?_)
          generalize eg70 : sG (sG g i (nI (k + 1), (g.2.2.2 i).2.1, f)) i (x69, ((sG g i (nI (k + 1), (g.2.2.2 i).2.1, f)).2.2.2 i).2) = g70 at hU
          refine lv_goto (tgt := 42) hx hb d_B_close_73 (by decide) ?_
          rw [← eg70, ex69, ex65, hg1, nI_pred, sG_sG] at hU
          exact ih f _ _ ls (by omega) (by rw [← hv, vl_s, h60, wn_0, Nat.zero_mul, Nat.add_zero]) hU (lv_sub hl [0, 1, 2] rfl)
  have hM : vl (g.2.2.2 i).2.2 n < MM := vl_ltM _ hn
  refine lv_aload_n hx hb d_B_close_0 rfl (lv_at hl 0 rfl) ?_
  refine lv_iload_n hx hb d_B_close_1 rfl (lv_at hl 1 rfl) ?_
  refine zp_L hx hb hts hown hU hi (hts _ k_B_23) d_B_close_2 (fun H locs hU => ?_)
  generalize eg2 : sG g i (nI n, (g.2.2.2 i).2) = g2 at hU
  refine lv_lload_n hx hb d_B_close_5 rfl (lv_at hl 2 rfl) ?_
  refine lv_lconst (v := 0) hx hb d_B_close_6 (by decide) ?_
  refine W.lcmp hx hb d_B_close_7 ?_
  refine lv_if_eq (tgt := 42) hx hb d_B_close_8 (by decide) (fun c8 => ?_) (fun c8 => ?_)
  · have h8 : cr = 0 := (lg_cmp_eq _ _).mp c8
    rw [← eg2] at hU
    exact K n _ _ _ ls hn (by rw [h8, uN_0, Nat.zero_mod, Nat.zero_mul, Nat.add_zero, Nat.mod_eq_of_lt hM]) hU (lv_sub hl [0, 1, 2] rfl)
  · refine lv_aload_n hx hb d_B_close_11 rfl (lv_at hl 0 rfl) ?_
    refine va_get (D := z.1) (ci := 2) (v := .int ((g2.2.2.2 i).1)) (C := R_B) (T := F_B) (N := 3) hx hb hts in_B hown hU.2.1 hU.1 (2 + 2 * i) (uw_o z g2 hi) rfl 1 (by decide) (hts _ k_B_23) (fun _ h9 => h9) rfl d_B_close_12 ?_
    refine lv_topi (fun x12 ex12 => ?_)
    refine lv_sipush (v := 512) hx hb d_B_close_15 (by decide) ?_
    have e12 : x12 = nI n := by rw [ex12, ← eg2, sG_s]
    refine lv_icmp_ge (tgt := 42) hx hb d_B_close_18 (by decide) (fun c18 => ?_) (fun c18 => ?_)
    · have h18 : n = 512 := by
        rw [e12] at c18
        have := (nI_leI (a := 512) (b := n) (by decide) (by omega)).mp c18
        omega
      rw [← eg2] at hU
      exact K n _ _ _ ls hn (by rw [h18, ← MM_def, Nat.add_mul_mod_self_right, Nat.mod_eq_of_lt]; rw [← h18]; exact hM) hU (lv_sub hl [0, 1, 2] rfl)
    · have h18 : n < 512 := Nat.lt_of_not_le (fun q => c18 (by rw [e12]; exact (nI_leI (a := 512) (b := n) (by decide) (by omega)).mpr q))
      refine lv_aload_n hx hb d_B_close_21 rfl (lv_at hl 0 rfl) ?_
      refine va_get (D := z.1) (ci := 2) (v := .ref (rA z i)) (C := R_B) (T := F_B) (N := 3) hx hb hts in_B hown hU.2.1 hU.1 (2 + 2 * i) (uw_o z g2 hi) rfl 0 (by decide) (hts _ k_B_9) (fun _ h9 => h9) rfl d_B_close_22 ?_
      refine lv_aload_n hx hb d_B_close_25 rfl (lv_at hl 0 rfl) ?_
      refine va_get (D := z.1) (ci := 2) (v := .int ((g2.2.2.2 i).1)) (C := R_B) (T := F_B) (N := 3) hx hb hts in_B hown hU.2.1 hU.1 (2 + 2 * i) (uw_o z g2 hi) rfl 1 (by decide) (hts _ k_B_23) (fun _ h9 => h9) rfl d_B_close_26 ?_
      refine lv_topi (fun x26 ex26 => ?_)
      refine lv_lload_n hx hb d_B_close_29 rfl (lv_at hl 2 rfl) ?_
      refine lv_l2i hx hb d_B_close_30 rfl ?_
      refine lv_topi (fun x30 ex30 => ?_)
      have e26 : x26 = nI n := by rw [ex26, ← eg2, sG_s]
      have hin31 : vp_in x26 512 := by rw [e26]; exact vp_in_nI h18 (by decide)
      refine z_iast hx hb hU hi hin31 d_B_close_31 (fun H locs hU => ?_)
      generalize eg31 : sW g2 i (upd (g2.2.2.2 i).2.2 x26.toNatClampNeg x30) = g31 at hU
      refine lv_aload_n hx hb d_B_close_32 rfl (lv_at hl 0 rfl) ?_
      refine lv_dup hx hb d_B_close_33 rfl ?_
      refine va_get (D := z.1) (ci := 2) (v := .int ((g31.2.2.2 i).1)) (C := R_B) (T := F_B) (N := 3) hx hb hts in_B hown hU.2.1 hU.1 (2 + 2 * i) (uw_o z g31 hi) rfl 1 (by decide) (hts _ k_B_23) (fun _ h9 => h9) rfl d_B_close_34 ?_
      refine lv_topi (fun x34 ex34 => ?_)
      refine lv_iconst (v := 1) hx hb d_B_close_37 (by decide) ?_
      refine lv_iadd hx hb d_B_close_38 ?_
      refine lv_topi (fun x38 ex38 => ?_)
      refine zp_L hx hb hts hown hU hi (hts _ k_B_23) d_B_close_39 (fun H locs hU => ?_)
      generalize eg39 : sG g31 i (x38, (g31.2.2.2 i).2) = g39 at hU
      have e34 : x34 = nI n := by rw [ex34, ← eg31, ← eg2, sW_sG, sG_s]
      rw [← eg39, ← eg31, ← eg2, ex38, e34, sW_sG, sG_s, sG_s, sG_sG, e26, nI_clamp (by omega), nI_1] at hU
      exact K (n + 1) _ _ _ ls h18 (by
        rw [vl_upds, ex30, wn_l2i]
        refine (Nat.mod_eq_of_lt ?_).symm
        show vl (g.2.2.2 i).2.2 n + uN cr % 4294967296 * 4294967296 ^ n < MM
        have h2 : (uN cr % 4294967296 + 1) * 4294967296 ^ n ≤ 4294967296 * 4294967296 ^ n := Nat.mul_le_mul_right _ (by omega)
        have h3 : 4294967296 ^ (n + 1) ≤ MM := MM_le h18
        have h4 := vl_lt (g.2.2.2 i).2.2 n
        rw [Nat.add_mul, Nat.one_mul] at h2
        rw [Nat.pow_succ] at h3
        omega) hU (lv_sub hl [0, 1, 2] rfl)
set_option maxHeartbeats 4000000 in
set_option maxRecDepth 100000 in
theorem c_set (l : Launch) (z : ZZ) (sz : Nat) (g : St) {i : Nat} (hi : i < 10) {v : Nat} (hv : v < 2 ^ 31) : Met l y_B_set (zw y_B_set b_B_set 2 none) { frames := 1, cells := 0, slots := 0, locals := 23 } (va_Pc [.ref (oA z i), .int (nI v)] (zI z g sz)) (va_Qv (fun g2 => ∃ b, g2 = sG g i b ∧ bOk b ∧ b.2.1 = 0 ∧ bv b = v) (zO z sz) (zA z sz)) 0 0 (zA z sz) := by
  refine z_ofW (by decide) (Nat.le_of_ble_eq_true rfl) (fun p e s m below meth c hx hb hr hml hown hts hlocks hname hsz hN ls hU hl => ?_)
  have hl : lv_has ls 2 [(0, .ref (oA z i)), (1, .int (nI v))] := hl
  have hbo2 : (0 : Int32) = 0 ∨ (0 : Int32) = 1 := Or.inl rfl
  refine lv_aload_n hx hb d_B_set_0 rfl (lv_at hl 0 rfl) ?_
  refine lv_iconst (v := 0) hx hb d_B_set_1 (by decide) ?_
  refine zp_B hx hb hts hown hU hi (hts _ k_B_15) hbo2 d_B_set_2 (fun H locs hU => ?_)
  generalize eg2 : sG g i ((g.2.2.2 i).1, 0, (g.2.2.2 i).2.2) = g2 at hU
  refine lv_aload_n hx hb d_B_set_5 rfl (lv_at hl 0 rfl) ?_
  refine lv_iconst (v := 0) hx hb d_B_set_6 (by decide) ?_
  refine lv_iload_n hx hb d_B_set_7 rfl (lv_at hl 1 rfl) ?_
  refine lv_i2l hx hb d_B_set_8 rfl ?_
  refine lv_topl (fun x8 ex8 => ?_)
  have e8 : uN x8 = v := by rw [ex8]; exact uN_nI hv
  refine z_callv (z_run (As := [.int 0, .long x8]) (rest := []) hx hb hml hown hts hU hN (c_close l z _ g2 hi (by rw [← eg2, sG_s]; exact Or.inl rfl) (n := 0) (Nat.zero_le _) x8) (w_B_close_cw hts k_B_19 rfl rfl ⟨Nat.le_of_ble_eq_true rfl, Nat.le_of_ble_eq_true rfl⟩) (z_recvB hU hi) rfl hl.1 rfl (lv_room (Nat.le_of_ble_eq_true rfl)) d_B_set_9 ⟨Nat.zero_le _, Nat.zero_le _⟩) hU (fun g3 H locs hp hU => ?_)
  obtain ⟨b, rfl, hb1, hb2, hb3⟩ := hp
  rw [← eg2, sG_sG] at hU
  exact z_vret hx hb hr hlocks hsz hU ⟨b, rfl, hb1, by rw [hb2, ← eg2, sG_s], by
    rw [hb3, e8, Nat.mod_eq_of_lt (a := v) (by omega)]
    show (0 + v * 1) % MM = v
    rw [Nat.zero_add, Nat.mul_one, Nat.mod_eq_of_lt]
    exact Nat.lt_of_lt_of_le (by omega) (MM_le (n := 1) (by decide))⟩ d_B_set_12
set_option maxHeartbeats 4000000 in
set_option maxRecDepth 100000 in
theorem c_setTimes (l : Launch) (z : ZZ) (sz : Nat) (g : St) {i j : Nat} (hi : i < 10) (hj : j < 10) (hij : j ≠ i) (hok : bOk (g.2.2.2 j)) (fc : Int32) : Met l y_B_setTimes (zw y_B_setTimes b_B_setTimes 8 none) { frames := 1, cells := 0, slots := 0, locals := 23 } (va_Pc [.ref (oA z i), .ref (oA z j), .int fc] (zI z g sz)) (va_Qv (fun g2 => ∃ b, g2 = sG g i b ∧ bOk b ∧ b.2.1 = (if (g.2.2.2 j).2.1 = (if fc < 0 then 1 else 0) then 0 else 1) ∧ bv b = fc.toInt.natAbs * bv (g.2.2.2 j) % MM) (zO z sz) (zA z sz)) 0 0 (zA z sz) := by
  refine z_ofW (by decide) (Nat.le_of_ble_eq_true rfl) (fun p e s m below meth c hx hb hr hml hown hts hlocks hname hsz hN ls hU hl => ?_)
  have hl : lv_has ls 8 [(0, .ref (oA z i)), (1, .ref (oA z j)), (2, .int fc)] := hl
  obtain ⟨n, hn, hn1, hbel, htop⟩ := hok
  have hbv : bv (g.2.2.2 j) = vl (g.2.2.2 j).2.2 n := bv_of hn hn1
  generalize eF : (g.2.2.2 j).2.2 = F at hbv
  obtain ⟨N, eN⟩ : ∃ y, y = fc.toInt.natAbs := ⟨_, rfl⟩
  have hN0 : N ≤ 2147483648 := by rw [eN]; exact i32_abs_le fc
  have E85 : ∀ (v : Int32) (f : Nat → Int32) (cr : Int64) (k : Int32) (x2 : Int64) (H : Heap) (locs : List Loc) (ls : Array Slot), (v = 0 ∨ v = 1) → v = (if (g.2.2.2 j).2.1 = (if fc < 0 then 1 else 0) then 0 else 1) → vl f n + uN cr * 4294967296 ^ n = N * vl F n → uN cr < 4294967296 → Ws z (sW g i f) s.heap H locs s → lv_has ls 8 [(0, .ref (oA z i)), (1, .ref (oA z j)), (2, .int fc), (3, .long x2), (5, .long cr), (7, .int k)] → W p l e ({ frames := 1, cells := 0, slots := 0, locals := 23 } : Room) s m ([.ref (oA z i), .ref (oA z j), .int fc] : List Value).toArray below meth c H locs 0 0 (MQ below (va_Qv (fun g2 => ∃ b, g2 = sG g i b ∧ bOk b ∧ b.2.1 = (if (g.2.2.2 j).2.1 = (if fc < 0 then 1 else 0) then 0 else 1) ∧ bv b = fc.toInt.natAbs * bv (g.2.2.2 j) % MM) (zO z sz) (zA z sz)) ([.ref (oA z i), .ref (oA z j), .int fc] : List Value).toArray s 0 0 (zA z sz)) (F0 m 85 ls [.int v, .ref (oA z i)]) := by
    intro v f cr k x2 H locs ls hbo85 hv hI hc hU hl
    refine zp_B hx hb hts hown hU hi (hts _ k_B_15) hbo85 d_B_setTimes_85 (fun H locs hU => ?_)
    generalize eg85 : sG (sW g i f) i (((sW g i f).2.2.2 i).1, v, ((sW g i f).2.2.2 i).2.2) = g85 at hU
    refine lv_aload_n hx hb d_B_setTimes_88 rfl (lv_at hl 0 rfl) ?_
    refine lv_aload_n hx hb d_B_setTimes_89 rfl (lv_at hl 1 rfl) ?_
    refine va_get (D := z.1) (ci := 2) (v := .int ((g85.2.2.2 j).1)) (C := R_B) (T := F_B) (N := 3) hx hb hts in_B hown hU.2.1 hU.1 (2 + 2 * j) (uw_o z g85 hj) rfl 1 (by decide) (hts _ k_B_23) (fun _ h9 => h9) rfl d_B_setTimes_90 ?_
    refine lv_topi (fun x90 ex90 => ?_)
    refine lv_lload hx hb d_B_setTimes_93 (lv_at hl 4 rfl) ?_
    have e90 : x90 = nI n := by rw [ex90, ← eg85, sG_n _ _ hij, sW_n _ _ hij, hn1]
    rw [e90]
    have e85 : (g85.2.2.2 i) = ((g.2.2.2 i).1, v, f) := by rw [← eg85, sG_s, sW_s]
    refine z_callv (z_run (As := [.int (nI n), .long cr]) (rest := []) hx hb hml hown hts hU hN (c_close l z _ g85 hi (by rw [e85]; exact hbo85) hn cr) (w_B_close_cw hts k_B_19 rfl rfl ⟨Nat.le_of_ble_eq_true rfl, Nat.le_of_ble_eq_true rfl⟩) (z_recvB hU hi) rfl hl.1 rfl (lv_room (Nat.le_of_ble_eq_true rfl)) d_B_setTimes_95 ⟨Nat.zero_le _, Nat.zero_le _⟩) hU (fun g3 H locs hp hU => ?_)
    obtain ⟨b, rfl, hb1, hb2, hb3⟩ := hp
    rw [← eg85, sG_sG, sW_eq, sG_sG] at hU
    exact z_vret hx hb hr hlocks hsz hU ⟨b, rfl, hb1, by rw [hb2, e85]; exact hv, by
      rw [hb3, e85, Nat.mod_eq_of_lt hc, ← eN, hbv]
      exact congrArg (· % MM) hI⟩ d_B_setTimes_98
  have K : ∀ (d k : Nat) (f : Nat → Int32) (cr x2 : Int64) (H : Heap) (locs : List Loc) (ls : Array Slot), k + d = n → uN x2 = N → vl f k + uN cr * 4294967296 ^ k = N * vl F k → uN cr < 4294967296 → Ws z (sW g i f) s.heap H locs s → lv_has ls 8 [(0, .ref (oA z i)), (1, .ref (oA z j)), (2, .int fc), (3, .long x2), (5, .long cr), (7, .int (nI k))] → W p l e ({ frames := 1, cells := 0, slots := 0, locals := 23 } : Room) s m ([.ref (oA z i), .ref (oA z j), .int fc] : List Value).toArray below meth c H locs 0 0 (MQ below (va_Qv (fun g2 => ∃ b, g2 = sG g i b ∧ bOk b ∧ b.2.1 = (if (g.2.2.2 j).2.1 = (if fc < 0 then 1 else 0) then 0 else 1) ∧ bv b = fc.toInt.natAbs * bv (g.2.2.2 j) % MM) (zO z sz) (zA z sz)) ([.ref (oA z i), .ref (oA z j), .int fc] : List Value).toArray s 0 0 (zA z sz)) (F0 m 12 ls []) := by
    intro d
    induction d with
    | zero =>
      intro k f cr x2 H locs ls hk h2 hI hc hU hl
      have hk : k = n := by omega
      subst hk
      refine lv_iload hx hb d_B_setTimes_12 (lv_at hl 5 rfl) ?_
      refine lv_aload_n hx hb d_B_setTimes_14 rfl (lv_at hl 1 rfl) ?_
      refine va_get (D := z.1) (ci := 2) (v := .int (((sW g i f).2.2.2 j).1)) (C := R_B) (T := F_B) (N := 3) hx hb hts in_B hown hU.2.1 hU.1 (2 + 2 * j) (uw_o z (sW g i f) hj) rfl 1 (by decide) (hts _ k_B_23) (fun _ h9 => h9) rfl d_B_setTimes_15 ?_
      refine lv_topi (fun x15 ex15 => ?_)
      have e15 : x15 = nI k := by rw [ex15, sW_n _ _ hij, hn1]
      refine lv_icmp_ge (tgt := 63) hx hb d_B_setTimes_18 (by decide) (fun c18 => ?_) (fun c18 => ?_)
      · refine lv_aload_n hx hb d_B_setTimes_63 rfl (lv_at hl 0 rfl) ?_
        refine lv_aload_n hx hb d_B_setTimes_64 rfl (lv_at hl 1 rfl) ?_
        refine va_get (D := z.1) (ci := 2) (v := .int (((sW g i f).2.2.2 j).2.1)) (C := R_B) (T := F_B) (N := 3) hx hb hts in_B hown hU.2.1 hU.1 (2 + 2 * j) (uw_o z (sW g i f) hj) rfl 2 (by decide) (hts _ k_B_15) (fun _ h9 => h9) rfl d_B_setTimes_65 ?_
        refine lv_topi (fun x65 ex65 => ?_)
        refine lv_iload_n hx hb d_B_setTimes_68 rfl (lv_at hl 2 rfl) ?_
        have e65 : x65 = (g.2.2.2 j).2.1 := by rw [ex65, sW_n _ _ hij]
        refine lv_if_ge (tgt := 76) hx hb d_B_setTimes_69 (by decide) (fun c69 => ?_) (fun c69 => ?_)
        · have h69 : ¬ fc < 0 := Int32.not_lt.mpr c69
          refine lv_iconst (v := 0) hx hb d_B_setTimes_76 (by decide) ?_
          refine lv_icmp_eq (tgt := 84) hx hb d_B_setTimes_77 (by decide) (fun c77 => ?_) (fun c77 => ?_)
          · refine lv_iconst (v := 0) hx hb d_B_setTimes_84 (by decide) ?_
            exact E85 0 f cr _ x2 _ _ ls (Or.inl rfl) (by rw [if_neg h69, ← e65, if_pos c77]) hI hc hU hl
          · refine lv_iconst (v := 1) hx hb d_B_setTimes_80 (by decide) ?_
            refine lv_goto (tgt := 85) hx hb d_B_setTimes_81 (by decide) ?_
            exact E85 1 f cr _ x2 _ _ ls (Or.inr rfl) (by rw [if_neg h69, ← e65, if_neg c77]) hI hc hU hl
        · have h69 : fc < 0 := Int32.not_le.mp c69
          refine lv_iconst (v := 1) hx hb d_B_setTimes_72 (by decide) ?_
          refine lv_goto (tgt := 77) hx hb d_B_setTimes_73 (by decide) ?_
          refine lv_icmp_eq (tgt := 84) hx hb d_B_setTimes_77 (by decide) (fun c77 => ?_) (fun c77 => ?_)
          · refine lv_iconst (v := 0) hx hb d_B_setTimes_84 (by decide) ?_
            exact E85 0 f cr _ x2 _ _ ls (Or.inl rfl) (by rw [if_pos h69, ← e65, if_pos c77]) hI hc hU hl
          · refine lv_iconst (v := 1) hx hb d_B_setTimes_80 (by decide) ?_
            refine lv_goto (tgt := 85) hx hb d_B_setTimes_81 (by decide) ?_
            exact E85 1 f cr _ x2 _ _ ls (Or.inr rfl) (by rw [if_pos h69, ← e65, if_neg c77]) hI hc hU hl
      · exact absurd (by rw [e15]; exact Int32.le_refl _) c18
    | succ d ih =>
      intro k f cr x2 H locs ls hk h2 hI hc hU hl
      refine lv_iload hx hb d_B_setTimes_12 (lv_at hl 5 rfl) ?_
      refine lv_aload_n hx hb d_B_setTimes_14 rfl (lv_at hl 1 rfl) ?_
      refine va_get (D := z.1) (ci := 2) (v := .int (((sW g i f).2.2.2 j).1)) (C := R_B) (T := F_B) (N := 3) hx hb hts in_B hown hU.2.1 hU.1 (2 + 2 * j) (uw_o z (sW g i f) hj) rfl 1 (by decide) (hts _ k_B_23) (fun _ h9 => h9) rfl d_B_setTimes_15 ?_
      refine lv_topi (fun x15 ex15 => ?_)
      have e15 : x15 = nI n := by rw [ex15, sW_n _ _ hij, hn1]
      refine lv_icmp_ge (tgt := 63) hx hb d_B_setTimes_18 (by decide) (fun c18 => ?_) (fun c18 => ?_)
      · exact absurd (by rw [e15] at c18; exact c18) (nI_ge (by omega) (by omega))
      · have hin29 : vp_in (nI k) 512 := vp_in_nI (by omega) (by decide)
        have hin49 : vp_in (nI k) 512 := hin29
        refine lv_lload hx hb d_B_setTimes_21 (lv_at hl 4 rfl) ?_
        refine lv_aload_n hx hb d_B_setTimes_23 rfl (lv_at hl 1 rfl) ?_
        refine va_get (D := z.1) (ci := 2) (v := .ref (rA z j)) (C := R_B) (T := F_B) (N := 3) hx hb hts in_B hown hU.2.1 hU.1 (2 + 2 * j) (uw_o z (sW g i f) hj) rfl 0 (by decide) (hts _ k_B_9) (fun _ h9 => h9) rfl d_B_setTimes_24 ?_
        refine lv_iload hx hb d_B_setTimes_27 (lv_at hl 5 rfl) ?_
        refine va_iald hx hb hU.2.1 hU.1 (3 + 2 * j) j (uw_w z (sW g i f) hj) (zty_a z hj) hin29 d_B_setTimes_29 ?_
        refine lv_topi (fun x29 ex29 => ?_)
        refine lv_i2l hx hb d_B_setTimes_30 rfl ?_
        refine lv_topl (fun x30 ex30 => ?_)
        refine lv_ldc2 (v := 4294967295) hx hb hown (hts _ k_B_39) d_B_setTimes_31 ?_
        refine lv_land hx hb d_B_setTimes_34 ?_
        refine lv_topl (fun x34 ex34 => ?_)
        refine lv_lload_n hx hb d_B_setTimes_35 rfl (lv_at hl 3 rfl) ?_
        refine lv_lmul hx hb d_B_setTimes_36 ?_
        refine lv_topl (fun x36 ex36 => ?_)
        refine lv_ladd hx hb d_B_setTimes_37 ?_
        refine lv_topl (fun x37 ex37 => ?_)
        refine lv_lstore (lv' := [(5, .long x37), (0, .ref (oA z i)), (1, .ref (oA z j)), (2, .int fc), (3, .long x2), (7, .int (nI k))]) hx hb d_B_setTimes_38 hl (by decide) rfl (fun ls hl => ?_)
        refine lv_aload_n hx hb d_B_setTimes_40 rfl (lv_at hl 1 rfl) ?_
        refine va_get (D := z.1) (ci := 2) (v := .ref (rA z i)) (C := R_B) (T := F_B) (N := 3) hx hb hts in_B hown hU.2.1 hU.1 (2 + 2 * i) (uw_o z (sW g i f) hi) rfl 0 (by decide) (hts _ k_B_9) (fun _ h9 => h9) rfl d_B_setTimes_41 ?_
        refine lv_iload hx hb d_B_setTimes_44 (lv_at hl 5 rfl) ?_
        refine lv_lload hx hb d_B_setTimes_46 (lv_at hl 0 rfl) ?_
        refine lv_l2i hx hb d_B_setTimes_48 rfl ?_
        refine lv_topi (fun x48 ex48 => ?_)
        refine z_iast hx hb hU hi hin49 d_B_setTimes_49 (fun H locs hU => ?_)
        generalize eg49 : sW (sW g i f) i (upd ((sW g i f).2.2.2 i).2.2 (nI k).toNatClampNeg x48) = g49 at hU
        refine lv_lload hx hb d_B_setTimes_50 (lv_at hl 0 rfl) ?_
        refine lv_bipush (v := 32) hx hb d_B_setTimes_52 (by decide) ?_
        refine lv_lushr hx hb d_B_setTimes_54 rfl ?_
        refine lv_topl (fun x54 ex54 => ?_)
        refine lv_lstore (lv' := [(5, .long x54), (0, .ref (oA z i)), (1, .ref (oA z j)), (2, .int fc), (3, .long x2), (7, .int (nI k))]) hx hb d_B_setTimes_55 hl (by decide) rfl (fun ls hl => ?_)
        obtain ⟨x57, ex57⟩ : ∃ y : Int32, y = (nI k) + Int32.ofInt 1 := ⟨_, rfl⟩
        refine lv_iinc (v := x57) (lv' := [(7, .int x57), (5, .long x54), (0, .ref (oA z i)), (1, .ref (oA z j)), (2, .int fc), (3, .long x2)]) hx hb d_B_setTimes_57 hl (k := 5) rfl (by rw [ex57]) (by decide) rfl (fun ls hl => ?_)
        refine lv_goto (tgt := 12) hx hb d_B_setTimes_60 (by decide) ?_
        have e29 : x29 = F k := by rw [ex29, sW_n _ _ hij, eF, nI_clamp (by omega)]
        have u34 : uN x34 = wn (F k) := by rw [ex34, ex30, e29]; exact uN_w _
        have hw := wn_lt (F k)
        have u36 : uN x36 = wn (F k) * N := by
          rw [ex36, uN_mul', u34, h2]
          rw [u34, h2]
          exact Nat.lt_of_le_of_lt (Nat.mul_le_mul (Nat.le_of_lt hw) hN0) (by decide)
        have b36 : wn (F k) * N ≤ 4294967295 * 2147483648 := Nat.mul_le_mul (by omega) hN0
        have u37 : uN x37 = uN cr + wn (F k) * N := by
          rw [ex37, uN_add', u36]
          rw [u36]
          omega
        have u54 : uN x54 = uN x37 / 4294967296 := by rw [ex54]; exact uN_s32 _
        rw [← eg49, sW_sW, sW_s, nI_clamp (by omega)] at hU
        rw [ex57, show Int32.ofInt 1 = 1 from rfl, nI_1] at hl
        exact ih (k + 1) _ x54 x2 _ _ ls (by omega) h2 (by
          rw [vl_upds, ex48, wn_l2i, u54, Nat.pow_succ]
          exact vl_step (uN x37) hI u37) (by rw [u54]; omega) hU (lv_sub hl [2, 3, 4, 5, 1, 0] rfl)
  refine lv_iload_n hx hb d_B_setTimes_0 rfl (lv_at hl 2 rfl) ?_
  refine lv_i2l hx hb d_B_setTimes_1 rfl ?_
  refine lv_topl (fun x1 ex1 => ?_)
  refine va_mabs_long hx hb (hml.trans hl.1.symm) hown (hts _ k_B_41) (hts _ q_absl_st) (hts _ q_math) (hts _ q_absl_co) (Nat.le_of_ble_eq_true rfl) (Nat.le_of_ble_eq_true rfl) (Nat.zero_le _) (Nat.zero_le _) d_B_setTimes_2 ?_
  refine lv_topl (fun x2 ex2 => ?_)
  refine lv_lstore_n (lv' := [(3, .long x2), (0, .ref (oA z i)), (1, .ref (oA z j)), (2, .int fc)]) hx hb d_B_setTimes_5 rfl hl (by decide) rfl (fun ls hl => ?_)
  refine lv_lconst (v := 0) hx hb d_B_setTimes_6 (by decide) ?_
  refine lv_lstore (lv' := [(5, .long 0), (3, .long x2), (0, .ref (oA z i)), (1, .ref (oA z j)), (2, .int fc)]) hx hb d_B_setTimes_7 hl (by decide) rfl (fun ls hl => ?_)
  refine lv_iconst (v := 0) hx hb d_B_setTimes_9 (by decide) ?_
  refine lv_istore (lv' := [(7, .int 0), (5, .long 0), (3, .long x2), (0, .ref (oA z i)), (1, .ref (oA z j)), (2, .int fc)]) hx hb d_B_setTimes_10 hl (by decide) rfl (fun ls hl => ?_)
  exact K n 0 (g.2.2.2 i).2.2 0 x2 _ _ ls (Nat.zero_add n) (by rw [ex2, ex1, eN]; exact uN_absl fc) rfl (by decide) (by rw [sW_self]; exact hU) (lv_sub hl [3, 4, 5, 2, 1, 0] rfl)
set_option maxHeartbeats 4000000 in
set_option maxRecDepth 100000 in
theorem c_setSum (l : Launch) (z : ZZ) (sz : Nat) (g : St) {i j : Nat} (hi : i < 10) (hj : j < 10) (hij : j ≠ i) {n r : Nat} (hn : n ≤ 512) (hn1 : (g.2.2.2 j).1 = nI n) (hr0 : r ≤ 512) (hr1 : (g.2.2.2 i).1 = nI r) : Met l y_B_setSum (zw y_B_setSum b_B_setSum 7 none) { frames := 1, cells := 0, slots := 0, locals := 23 } (va_Pc [.ref (oA z i), .ref (oA z j), .ref (oA z i)] (zI z g sz)) (va_Qv (fun g2 => ∃ b, g2 = sG g i b ∧ bOk b ∧ b.2.1 = 0 ∧ bv b = (vl (g.2.2.2 j).2.2 n + vl (g.2.2.2 i).2.2 r) % MM) (zO z sz) (zA z sz)) 0 0 (zA z sz) := by
  refine z_ofW (by decide) (Nat.le_of_ble_eq_true rfl) (fun p e s m below meth c hx hb hr hml hown hts hlocks hname hsz hN ls hU hl => ?_)
  have hl : lv_has ls 7 [(0, .ref (oA z i)), (1, .ref (oA z j)), (2, .ref (oA z i))] := hl
  obtain ⟨F, eF⟩ : ∃ y, y = (g.2.2.2 j).2.2 := ⟨_, rfl⟩
  obtain ⟨G, eG⟩ : ∃ y, y = (g.2.2.2 i).2.2 := ⟨_, rfl⟩
  obtain ⟨M, eM⟩ : ∃ y, y = max n r := ⟨_, rfl⟩
  have hM : M ≤ 512 := by omega
  have K : ∀ (d k : Nat) (f : Nat → Int32) (cr : Int64) (H : Heap) (locs : List Loc) (ls : Array Slot), k + d = M → vl f k + uN cr * 4294967296 ^ k = vl (wd F n) k + vl (wd G r) k → uN cr ≤ 1 → (∀ q, k ≤ q → f q = G q) → Ws z (sW g i f) s.heap H locs s → lv_has ls 7 [(0, .ref (oA z i)), (1, .ref (oA z j)), (2, .ref (oA z i)), (3, .int (nI M)), (4, .long cr), (6, .int (nI k))] → W p l e ({ frames := 1, cells := 0, slots := 0, locals := 23 } : Room) s m ([.ref (oA z i), .ref (oA z j), .ref (oA z i)] : List Value).toArray below meth c H locs 0 0 (MQ below (va_Qv (fun g2 => ∃ b, g2 = sG g i b ∧ bOk b ∧ b.2.1 = 0 ∧ bv b = (vl (g.2.2.2 j).2.2 n + vl (g.2.2.2 i).2.2 r) % MM) (zO z sz) (zA z sz)) ([.ref (oA z i), .ref (oA z j), .ref (oA z i)] : List Value).toArray s 0 0 (zA z sz)) (F0 m 18 ls []) := by
    intro d
    induction d with
    | zero =>
      intro k f cr H locs ls hk hI hc hf hU hl
      have hk : k = M := by omega
      subst hk
      refine lv_iload hx hb d_B_setSum_18 (lv_at hl 5 rfl) ?_
      refine lv_iload_n hx hb d_B_setSum_20 rfl (lv_at hl 3 rfl) ?_
      refine lv_icmp_ge (tgt := 75) hx hb d_B_setSum_21 (by decide) (fun c21 => ?_) (fun c21 => ?_)
      · have hbo77 : (0 : Int32) = 0 ∨ (0 : Int32) = 1 := Or.inl rfl
        refine lv_aload_n hx hb d_B_setSum_75 rfl (lv_at hl 0 rfl) ?_
        refine lv_iconst (v := 0) hx hb d_B_setSum_76 (by decide) ?_
        refine zp_B hx hb hts hown hU hi (hts _ k_B_15) hbo77 d_B_setSum_77 (fun H locs hU => ?_)
        generalize eg77 : sG (sW g i f) i (((sW g i f).2.2.2 i).1, 0, ((sW g i f).2.2.2 i).2.2) = g77 at hU
        refine lv_aload_n hx hb d_B_setSum_80 rfl (lv_at hl 0 rfl) ?_
        refine lv_iload_n hx hb d_B_setSum_81 rfl (lv_at hl 3 rfl) ?_
        refine lv_lload hx hb d_B_setSum_82 (lv_at hl 4 rfl) ?_
        have e77 : (g77.2.2.2 i) = ((g.2.2.2 i).1, 0, f) := by rw [← eg77, sG_s, sW_s]
        refine z_callv (z_run (As := [.int (nI k), .long cr]) (rest := []) hx hb hml hown hts hU hN (c_close l z _ g77 hi (by rw [e77]; exact Or.inl rfl) hM cr) (w_B_close_cw hts k_B_19 rfl rfl ⟨Nat.le_of_ble_eq_true rfl, Nat.le_of_ble_eq_true rfl⟩) (z_recvB hU hi) rfl hl.1 rfl (lv_room (Nat.le_of_ble_eq_true rfl)) d_B_setSum_84 ⟨Nat.zero_le _, Nat.zero_le _⟩) hU (fun g3 H locs hp hU => ?_)
        obtain ⟨b, rfl, hb1, hb2, hb3⟩ := hp
        rw [← eg77, sG_sG, sW_eq, sG_sG] at hU
        exact z_vret hx hb hr hlocks hsz hU ⟨b, rfl, hb1, by rw [hb2, e77], by
          rw [hb3, e77, Nat.mod_eq_of_lt (a := uN cr) (by omega)]
          rw [vl_wd (by omega), vl_wd (by omega), eF, eG] at hI
          exact congrArg (· % MM) hI⟩ d_B_setSum_87
      · exact absurd (Int32.le_refl _) c21
    | succ d ih =>
      intro k f cr H locs ls hk hI hc hf hU hl
      refine lv_iload hx hb d_B_setSum_18 (lv_at hl 5 rfl) ?_
      refine lv_iload_n hx hb d_B_setSum_20 rfl (lv_at hl 3 rfl) ?_
      refine lv_icmp_ge (tgt := 75) hx hb d_B_setSum_21 (by decide) (fun c21 => ?_) (fun c21 => ?_)
      · exact absurd c21 (nI_ge (by omega) (by omega))
      · refine lv_lload hx hb d_B_setSum_24 (lv_at hl 4 rfl) ?_
        refine lv_aload_n hx hb d_B_setSum_26 rfl (lv_at hl 1 rfl) ?_
        refine lv_iload hx hb d_B_setSum_27 (lv_at hl 5 rfl) ?_
        refine z_calli (z_run (As := [.int (nI k)]) (rest := [.long cr]) hx hb hml hown hts hU hN (c_wordAt l z _ (sW g i f) hj hn (by rw [sW_n _ _ hij]; exact hn1) (K := k) (by omega)) (w_B_wordAt_cw hts k_B_58 rfl rfl ⟨Nat.le_of_ble_eq_true rfl, Nat.le_of_ble_eq_true rfl⟩) (z_recvB hU hj) rfl hl.1 rfl (lv_room (Nat.le_of_ble_eq_true rfl)) d_B_setSum_29 ⟨Nat.zero_le _, Nat.zero_le _⟩) hU (fun r29 g29 H locs hp29 hU => ?_)
        obtain ⟨rfl, e29⟩ := hp29
        refine lv_i2l hx hb d_B_setSum_32 rfl ?_
        refine lv_topl (fun x32 ex32 => ?_)
        refine lv_ldc2 (v := 4294967295) hx hb hown (hts _ k_B_39) d_B_setSum_33 ?_
        refine lv_land hx hb d_B_setSum_36 ?_
        refine lv_topl (fun x36 ex36 => ?_)
        refine lv_aload_n hx hb d_B_setSum_37 rfl (lv_at hl 2 rfl) ?_
        refine lv_iload hx hb d_B_setSum_38 (lv_at hl 5 rfl) ?_
        refine z_calli (z_run (As := [.int (nI k)]) (rest := [.long x36, .long cr]) hx hb hml hown hts hU hN (c_wordAt l z _ (sW g i f) hi hr0 (by rw [sW_s]; exact hr1) (K := k) (by omega)) (w_B_wordAt_cw hts k_B_58 rfl rfl ⟨Nat.le_of_ble_eq_true rfl, Nat.le_of_ble_eq_true rfl⟩) (z_recvB hU hi) rfl hl.1 rfl (lv_room (Nat.le_of_ble_eq_true rfl)) d_B_setSum_40 ⟨Nat.zero_le _, Nat.zero_le _⟩) hU (fun r40 g40 H locs hp40 hU => ?_)
        obtain ⟨rfl, e40⟩ := hp40
        have hin61 : vp_in (nI k) 512 := vp_in_nI (by omega) (by decide)
        refine lv_i2l hx hb d_B_setSum_43 rfl ?_
        refine lv_topl (fun x43 ex43 => ?_)
        refine lv_ldc2 (v := 4294967295) hx hb hown (hts _ k_B_39) d_B_setSum_44 ?_
        refine lv_land hx hb d_B_setSum_47 ?_
        refine lv_topl (fun x47 ex47 => ?_)
        refine lv_ladd hx hb d_B_setSum_48 ?_
        refine lv_topl (fun x48 ex48 => ?_)
        refine lv_ladd hx hb d_B_setSum_49 ?_
        refine lv_topl (fun x49 ex49 => ?_)
        refine lv_lstore (lv' := [(4, .long x49), (0, .ref (oA z i)), (1, .ref (oA z j)), (2, .ref (oA z i)), (3, .int (nI M)), (6, .int (nI k))]) hx hb d_B_setSum_50 hl (by decide) rfl (fun ls hl => ?_)
        refine lv_aload_n hx hb d_B_setSum_52 rfl (lv_at hl 1 rfl) ?_
        refine va_get (D := z.1) (ci := 2) (v := .ref (rA z i)) (C := R_B) (T := F_B) (N := 3) hx hb hts in_B hown hU.2.1 hU.1 (2 + 2 * i) (uw_o z (sW g i f) hi) rfl 0 (by decide) (hts _ k_B_9) (fun _ h9 => h9) rfl d_B_setSum_53 ?_
        refine lv_iload hx hb d_B_setSum_56 (lv_at hl 5 rfl) ?_
        refine lv_lload hx hb d_B_setSum_58 (lv_at hl 0 rfl) ?_
        refine lv_l2i hx hb d_B_setSum_60 rfl ?_
        refine lv_topi (fun x60 ex60 => ?_)
        refine z_iast hx hb hU hi hin61 d_B_setSum_61 (fun H locs hU => ?_)
        generalize eg61 : sW (sW g i f) i (upd ((sW g i f).2.2.2 i).2.2 (nI k).toNatClampNeg x60) = g61 at hU
        refine lv_lload hx hb d_B_setSum_62 (lv_at hl 0 rfl) ?_
        refine lv_bipush (v := 32) hx hb d_B_setSum_64 (by decide) ?_
        refine lv_lushr hx hb d_B_setSum_66 rfl ?_
        refine lv_topl (fun x66 ex66 => ?_)
        refine lv_lstore (lv' := [(4, .long x66), (0, .ref (oA z i)), (1, .ref (oA z j)), (2, .ref (oA z i)), (3, .int (nI M)), (6, .int (nI k))]) hx hb d_B_setSum_67 hl (by decide) rfl (fun ls hl => ?_)
        obtain ⟨x69, ex69⟩ : ∃ y : Int32, y = (nI k) + Int32.ofInt 1 := ⟨_, rfl⟩
        refine lv_iinc (v := x69) (lv' := [(6, .int x69), (4, .long x66), (0, .ref (oA z i)), (1, .ref (oA z j)), (2, .ref (oA z i)), (3, .int (nI M))]) hx hb d_B_setSum_69 hl (k := 5) rfl (by rw [ex69]) (by decide) rfl (fun ls hl => ?_)
        refine lv_goto (tgt := 18) hx hb d_B_setSum_72 (by decide) ?_
        have a1 : r29 = wd F n k := by rw [e29, sW_n _ _ hij, eF]
        have a2 : r40 = wd G r k := by
          rw [e40, sW_s]
          show wd f r k = wd G r k
          unfold wd
          rw [hf k (Nat.le_refl k)]
        have u36 : uN x36 = wn (wd F n k) := by rw [ex36, ex32, a1]; exact uN_w _
        have u47 : uN x47 = wn (wd G r k) := by rw [ex47, ex43, a2]; exact uN_w _
        have w1 := wn_lt (wd F n k)
        have w2 := wn_lt (wd G r k)
        have u48 : uN x48 = wn (wd F n k) + wn (wd G r k) := by
          rw [ex48, uN_add', u36, u47]
          rw [u36, u47]; omega
        have u49 : uN x49 = uN cr + (wn (wd F n k) + wn (wd G r k)) := by
          rw [ex49, uN_add', u48]
          rw [u48]; omega
        have u66 : uN x66 = uN x49 / 4294967296 := by rw [ex66]; exact uN_s32 _
        rw [← eg61, sW_sW, sW_s, nI_clamp (by omega)] at hU
        rw [ex69, show Int32.ofInt 1 = 1 from rfl, nI_1] at hl
        exact ih (k + 1) _ x66 _ _ ls (by omega) (by
          rw [vl_upds, ex60, wn_l2i, u66, Nat.pow_succ, vl_s, vl_s]
          exact vl_stepA (uN x49) hI u49) (by rw [u66]; omega) (fun q hq => by rw [pk_un (by omega)]; exact hf q (by omega)) hU (lv_sub hl [2, 3, 4, 5, 1, 0] rfl)
  refine lv_aload_n hx hb d_B_setSum_0 rfl (lv_at hl 1 rfl) ?_
  refine va_get (D := z.1) (ci := 2) (v := .int ((g.2.2.2 j).1)) (C := R_B) (T := F_B) (N := 3) hx hb hts in_B hown hU.2.1 hU.1 (2 + 2 * j) (uw_o z g hj) rfl 1 (by decide) (hts _ k_B_23) (fun _ h9 => h9) rfl d_B_setSum_1 ?_
  refine lv_topi (fun x1 ex1 => ?_)
  refine lv_aload_n hx hb d_B_setSum_4 rfl (lv_at hl 2 rfl) ?_
  refine va_get (D := z.1) (ci := 2) (v := .int ((g.2.2.2 i).1)) (C := R_B) (T := F_B) (N := 3) hx hb hts in_B hown hU.2.1 hU.1 (2 + 2 * i) (uw_o z g hi) rfl 1 (by decide) (hts _ k_B_23) (fun _ h9 => h9) rfl d_B_setSum_5 ?_
  refine lv_topi (fun x5 ex5 => ?_)
  refine va_mmax hx hb (hml.trans hl.1.symm) hown (hts _ k_B_55) (hts _ q_max_st) (hts _ q_math) (hts _ q_max_co) (Nat.le_of_ble_eq_true rfl) (Nat.le_of_ble_eq_true rfl) (Nat.zero_le _) (Nat.zero_le _) d_B_setSum_8 ?_
  refine lv_topi (fun x8 ex8 => ?_)
  refine lv_istore_n (lv' := [(3, .int x8), (0, .ref (oA z i)), (1, .ref (oA z j)), (2, .ref (oA z i))]) hx hb d_B_setSum_11 rfl hl (by decide) rfl (fun ls hl => ?_)
  refine lv_lconst (v := 0) hx hb d_B_setSum_12 (by decide) ?_
  refine lv_lstore (lv' := [(4, .long 0), (3, .int x8), (0, .ref (oA z i)), (1, .ref (oA z j)), (2, .ref (oA z i))]) hx hb d_B_setSum_13 hl (by decide) rfl (fun ls hl => ?_)
  refine lv_iconst (v := 0) hx hb d_B_setSum_15 (by decide) ?_
  refine lv_istore (lv' := [(6, .int 0), (4, .long 0), (3, .int x8), (0, .ref (oA z i)), (1, .ref (oA z j)), (2, .ref (oA z i))]) hx hb d_B_setSum_16 hl (by decide) rfl (fun ls hl => ?_)
  have e8 : x8 = nI M := by
    rw [ex8, ex1, ex5, hn1, hr1, eM]
    exact max_nI (by omega) (by omega)
  rw [e8] at hl
  exact K M 0 G 0 _ _ ls (Nat.zero_add M) rfl (by decide) (fun _ _ => rfl) (by rw [eG, sW_self]; exact hU) (lv_sub hl [3, 4, 5, 2, 1, 0] rfl)
set_option maxHeartbeats 4000000 in
set_option maxRecDepth 100000 in
theorem c_isLess (l : Launch) (z : ZZ) (sz : Nat) (g : St) {i j : Nat} (hi : i < 10) (hj : j < 10) (hok : bOk (g.2.2.2 i)) (hok2 : bOk (g.2.2.2 j)) : Met l y_B_isLess (zw y_B_isLess b_B_isLess 3 (some .boolean)) { frames := 0, cells := 0, slots := 0, locals := 0 } (va_Pc [.ref (oA z i), .ref (oA z j)] (zI z g sz)) (va_Qi (fun r g2 => g2 = g ∧ r = (if bv (g.2.2.2 i) < bv (g.2.2.2 j) then 1 else 0)) (zO z sz) (zA z sz)) 0 0 (zA z sz) := by
  refine z_ofW (by decide) (Nat.le_of_ble_eq_true rfl) (fun p e s m below meth c hx hb hr hml hown hts hlocks hname hsz hN ls hU hl => ?_)
  have hl : lv_has ls 3 [(0, .ref (oA z i)), (1, .ref (oA z j))] := hl
  obtain ⟨n, hn, hn1, hbel, htop⟩ := hok
  have hbv : bv (g.2.2.2 i) = vl (g.2.2.2 i).2.2 n := bv_of hn hn1
  obtain ⟨r, hr0, hr1, hrbel, hrtop⟩ := hok2
  have hbr : bv (g.2.2.2 j) = vl (g.2.2.2 j).2.2 r := bv_of hr0 hr1
  generalize eF : (g.2.2.2 i).2.2 = F at hbv htop
  generalize eG : (g.2.2.2 j).2.2 = G at hbr hrtop
  have K : ∀ (k : Nat) (H : Heap) (locs : List Loc) (ls : Array Slot), n = r → k ≤ n → (vl F n < vl G n ↔ vl F k < vl G k) → Ws z g s.heap H locs s → lv_has ls 3 [(0, .ref (oA z i)), (1, .ref (oA z j)), (2, .int (nI k - 1))] → W p l e ({ frames := 0, cells := 0, slots := 0, locals := 0 } : Room) s m ([.ref (oA z i), .ref (oA z j)] : List Value).toArray below meth c H locs 0 0 (MQ below (va_Qi (fun r g2 => g2 = g ∧ r = (if bv (g.2.2.2 i) < bv (g.2.2.2 j) then 1 else 0)) (zO z sz) (zA z sz)) ([.ref (oA z i), .ref (oA z j)] : List Value).toArray s 0 0 (zA z sz)) (F0 m 35 ls []) := by
    intro k
    induction k with
    | zero =>
      intro H locs ls hnr hk hI hU hl
      refine lv_iload_n hx hb d_B_isLess_35 rfl (lv_at hl 2 rfl) ?_
      refine lv_if_lt (tgt := 92) hx hb d_B_isLess_36 (by decide) (fun c36 => ?_) (fun c36 => ?_)
      · refine lv_iconst (v := 0) hx hb d_B_isLess_92 (by decide) ?_
        exact z_zret hx hb hr hlocks hsz hU (Or.inl rfl) ⟨rfl, by rw [hbv, hbr, ← hnr, if_neg]; rw [hI]; exact Nat.lt_irrefl _⟩ d_B_isLess_93
      · exact absurd (by decide) c36
    | succ k ih =>
      intro H locs ls hnr hk hI hU hl
      rw [nI_pred] at hl
      refine lv_iload_n hx hb d_B_isLess_35 rfl (lv_at hl 2 rfl) ?_
      refine lv_if_lt (tgt := 92) hx hb d_B_isLess_36 (by decide) (fun c36 => ?_) (fun c36 => ?_)
      · exact absurd c36 (nI_pos (by omega))
      · have hin44 : vp_in (nI k) 512 := vp_in_nI (by omega) (by decide)
        have hin50 := hin44
        have hin59 := hin44
        have hin70 := hin44
        refine lv_aload_n hx hb d_B_isLess_39 rfl (lv_at hl 0 rfl) ?_
        refine va_get (D := z.1) (ci := 2) (v := .ref (rA z i)) (C := R_B) (T := F_B) (N := 3) hx hb hts in_B hown hU.2.1 hU.1 (2 + 2 * i) (uw_o z g hi) rfl 0 (by decide) (hts _ k_B_9) (fun _ h9 => h9) rfl d_B_isLess_40 ?_
        refine lv_iload_n hx hb d_B_isLess_43 rfl (lv_at hl 2 rfl) ?_
        refine va_iald hx hb hU.2.1 hU.1 (3 + 2 * i) i (uw_w z g hi) (zty_a z hi) hin44 d_B_isLess_44 ?_
        refine lv_topi (fun x44 ex44 => ?_)
        refine lv_aload_n hx hb d_B_isLess_45 rfl (lv_at hl 1 rfl) ?_
        refine va_get (D := z.1) (ci := 2) (v := .ref (rA z j)) (C := R_B) (T := F_B) (N := 3) hx hb hts in_B hown hU.2.1 hU.1 (2 + 2 * j) (uw_o z g hj) rfl 0 (by decide) (hts _ k_B_9) (fun _ h9 => h9) rfl d_B_isLess_46 ?_
        refine lv_iload_n hx hb d_B_isLess_49 rfl (lv_at hl 2 rfl) ?_
        refine va_iald hx hb hU.2.1 hU.1 (3 + 2 * j) j (uw_w z g hj) (zty_a z hj) hin50 d_B_isLess_50 ?_
        refine lv_topi (fun x50 ex50 => ?_)
        have e44 : x44 = F k := by rw [ex44, nI_clamp (by omega), eF]
        have e50 : x50 = G k := by rw [ex50, nI_clamp (by omega), eG]
        refine lv_icmp_eq (tgt := 86) hx hb d_B_isLess_51 (by decide) (fun c51 => ?_) (fun c51 => ?_)
        · have h51 : F k = G k := by rw [← e44, ← e50]; exact c51
          obtain ⟨x86, ex86⟩ : ∃ y : Int32, y = (nI k) + Int32.ofInt (-1) := ⟨_, rfl⟩
          refine lv_iinc (v := x86) (lv' := [(2, .int x86), (0, .ref (oA z i)), (1, .ref (oA z j))]) hx hb d_B_isLess_86 hl (k := 2) rfl (by rw [ex86]) (by decide) rfl (fun ls hl => ?_)
          refine lv_goto (tgt := 35) hx hb d_B_isLess_89 (by decide) ?_
          rw [ex86, show Int32.ofInt (-1) = -1 from rfl, ← Int32.sub_eq_add_neg] at hl
          exact ih _ _ ls hnr (by omega) (hI.trans (by rw [vl_s, vl_s, h51]; exact Nat.add_lt_add_iff_right)) hU (lv_sub hl [1, 2, 0] rfl)
        · have h51 : wn (F k) ≠ wn (G k) := fun q => c51 (by rw [e44, e50]; exact wn_inj q)
          have l1 := vl_lt F k
          have l2 := vl_lt G k
          refine lv_aload_n hx hb d_B_isLess_54 rfl (lv_at hl 0 rfl) ?_
          refine va_get (D := z.1) (ci := 2) (v := .ref (rA z i)) (C := R_B) (T := F_B) (N := 3) hx hb hts in_B hown hU.2.1 hU.1 (2 + 2 * i) (uw_o z g hi) rfl 0 (by decide) (hts _ k_B_9) (fun _ h9 => h9) rfl d_B_isLess_55 ?_
          refine lv_iload_n hx hb d_B_isLess_58 rfl (lv_at hl 2 rfl) ?_
          refine va_iald hx hb hU.2.1 hU.1 (3 + 2 * i) i (uw_w z g hi) (zty_a z hi) hin59 d_B_isLess_59 ?_
          refine lv_topi (fun x59 ex59 => ?_)
          refine lv_i2l hx hb d_B_isLess_60 rfl ?_
          refine lv_topl (fun x60 ex60 => ?_)
          refine lv_ldc2 (v := 4294967295) hx hb hown (hts _ k_B_39) d_B_isLess_61 ?_
          refine lv_land hx hb d_B_isLess_64 ?_
          refine lv_topl (fun x64 ex64 => ?_)
          refine lv_aload_n hx hb d_B_isLess_65 rfl (lv_at hl 1 rfl) ?_
          refine va_get (D := z.1) (ci := 2) (v := .ref (rA z j)) (C := R_B) (T := F_B) (N := 3) hx hb hts in_B hown hU.2.1 hU.1 (2 + 2 * j) (uw_o z g hj) rfl 0 (by decide) (hts _ k_B_9) (fun _ h9 => h9) rfl d_B_isLess_66 ?_
          refine lv_iload_n hx hb d_B_isLess_69 rfl (lv_at hl 2 rfl) ?_
          refine va_iald hx hb hU.2.1 hU.1 (3 + 2 * j) j (uw_w z g hj) (zty_a z hj) hin70 d_B_isLess_70 ?_
          refine lv_topi (fun x70 ex70 => ?_)
          refine lv_i2l hx hb d_B_isLess_71 rfl ?_
          refine lv_topl (fun x71 ex71 => ?_)
          refine lv_ldc2 (v := 4294967295) hx hb hown (hts _ k_B_39) d_B_isLess_72 ?_
          refine lv_land hx hb d_B_isLess_75 ?_
          refine lv_topl (fun x75 ex75 => ?_)
          refine W.lcmp hx hb d_B_isLess_76 ?_
          have u64 : uN x64 = wn (F k) := by rw [ex64, ex60, ex59, nI_clamp (by omega), eF]; exact uN_w _
          have u75 : uN x75 = wn (G k) := by rw [ex75, ex71, ex70, nI_clamp (by omega), eG]; exact uN_w _
          have w1 := wn_lt (F k)
          have w2 := wn_lt (G k)
          have t64 := uN_int x64
          have t75 := uN_int x75
          rw [if_pos (by omega)] at t64 t75
          refine lv_if_ge (tgt := 84) hx hb d_B_isLess_77 (by decide) (fun c77 => ?_) (fun c77 => ?_)
          · have h77 : ¬ wn (F k) < wn (G k) := by
              have q : x75 ≤ x64 := (lg_cmp_ge _ _).mp c77
              rw [Int64.le_iff_toInt_le] at q
              omega
            refine lv_iconst (v := 0) hx hb d_B_isLess_84 (by decide) ?_
            exact z_zret hx hb hr hlocks hsz hU (Or.inl rfl) ⟨rfl, by rw [hbv, hbr, ← hnr, if_neg]; rw [hI, vl_s, vl_s]; exact vl_cmp1 l1 l2 (by omega)⟩ d_B_isLess_85
          · have h77 : wn (F k) < wn (G k) := by
              have q : ¬ x75 ≤ x64 := fun q => c77 ((lg_cmp_ge _ _).mpr q)
              rw [Int64.le_iff_toInt_le] at q
              omega
            refine lv_iconst (v := 1) hx hb d_B_isLess_80 (by decide) ?_
            refine lv_goto (tgt := 85) hx hb d_B_isLess_81 (by decide) ?_
            exact z_zret hx hb hr hlocks hsz hU (Or.inr rfl) ⟨rfl, by rw [hbv, hbr, ← hnr, if_pos]; rw [hI, vl_s, vl_s]; exact vl_cmp2 l1 h77⟩ d_B_isLess_85
  refine lv_aload_n hx hb d_B_isLess_0 rfl (lv_at hl 0 rfl) ?_
  refine va_get (D := z.1) (ci := 2) (v := .int ((g.2.2.2 i).1)) (C := R_B) (T := F_B) (N := 3) hx hb hts in_B hown hU.2.1 hU.1 (2 + 2 * i) (uw_o z g hi) rfl 1 (by decide) (hts _ k_B_23) (fun _ h9 => h9) rfl d_B_isLess_1 ?_
  refine lv_topi (fun x1 ex1 => ?_)
  refine lv_aload_n hx hb d_B_isLess_4 rfl (lv_at hl 1 rfl) ?_
  refine va_get (D := z.1) (ci := 2) (v := .int ((g.2.2.2 j).1)) (C := R_B) (T := F_B) (N := 3) hx hb hts in_B hown hU.2.1 hU.1 (2 + 2 * j) (uw_o z g hj) rfl 1 (by decide) (hts _ k_B_23) (fun _ h9 => h9) rfl d_B_isLess_5 ?_
  refine lv_topi (fun x5 ex5 => ?_)
  refine lv_icmp_eq (tgt := 28) hx hb d_B_isLess_8 (by decide) (fun c8 => ?_) (fun c8 => ?_)
  · have hnr : n = r := (nI_eq (by omega) (by omega)).mp (by rw [← hn1, ← hr1, ← ex1, ← ex5]; exact c8)
    refine lv_aload_n hx hb d_B_isLess_28 rfl (lv_at hl 0 rfl) ?_
    refine va_get (D := z.1) (ci := 2) (v := .int ((g.2.2.2 i).1)) (C := R_B) (T := F_B) (N := 3) hx hb hts in_B hown hU.2.1 hU.1 (2 + 2 * i) (uw_o z g hi) rfl 1 (by decide) (hts _ k_B_23) (fun _ h9 => h9) rfl d_B_isLess_29 ?_
    refine lv_topi (fun x29 ex29 => ?_)
    refine lv_iconst (v := 1) hx hb d_B_isLess_32 (by decide) ?_
    refine lv_isub hx hb d_B_isLess_33 ?_
    refine lv_topi (fun x33 ex33 => ?_)
    refine lv_istore_n (lv' := [(2, .int x33), (0, .ref (oA z i)), (1, .ref (oA z j))]) hx hb d_B_isLess_34 rfl hl (by decide) rfl (fun ls hl => ?_)
    rw [ex33, ex29, hn1] at hl
    exact K n _ _ ls hnr (Nat.le_refl n) Iff.rfl hU (lv_sub hl [1, 2, 0] rfl)
  · have hnr : n ≠ r := fun q => c8 (by rw [ex1, ex5, hn1, hr1, q])
    refine lv_aload_n hx hb d_B_isLess_11 rfl (lv_at hl 0 rfl) ?_
    refine va_get (D := z.1) (ci := 2) (v := .int ((g.2.2.2 i).1)) (C := R_B) (T := F_B) (N := 3) hx hb hts in_B hown hU.2.1 hU.1 (2 + 2 * i) (uw_o z g hi) rfl 1 (by decide) (hts _ k_B_23) (fun _ h9 => h9) rfl d_B_isLess_12 ?_
    refine lv_topi (fun x12 ex12 => ?_)
    refine lv_aload_n hx hb d_B_isLess_15 rfl (lv_at hl 1 rfl) ?_
    refine va_get (D := z.1) (ci := 2) (v := .int ((g.2.2.2 j).1)) (C := R_B) (T := F_B) (N := 3) hx hb hts in_B hown hU.2.1 hU.1 (2 + 2 * j) (uw_o z g hj) rfl 1 (by decide) (hts _ k_B_23) (fun _ h9 => h9) rfl d_B_isLess_16 ?_
    refine lv_topi (fun x16 ex16 => ?_)
    refine lv_icmp_ge (tgt := 26) hx hb d_B_isLess_19 (by decide) (fun c19 => ?_) (fun c19 => ?_)
    · have h19 : r < n := by
        have := (nI_leI (by omega) (by omega)).mp (show nI r ≤ nI n by rw [← hn1, ← hr1, ← ex12, ← ex16]; exact c19)
        omega
      refine lv_iconst (v := 0) hx hb d_B_isLess_26 (by decide) ?_
      exact z_zret hx hb hr hlocks hsz hU (Or.inl rfl) ⟨rfl, by rw [hbv, hbr, if_neg]; exact Nat.not_lt.mpr (Nat.le_of_lt (vl_len h19 (htop.resolve_left (by omega))))⟩ d_B_isLess_27
    · have h19 : n < r := by
        have h : ¬ r ≤ n := fun q => c19 (by rw [ex12, ex16, hn1, hr1]; exact (nI_leI (by omega) (by omega)).mpr q)
        omega
      refine lv_iconst (v := 1) hx hb d_B_isLess_22 (by decide) ?_
      refine lv_goto (tgt := 27) hx hb d_B_isLess_23 (by decide) ?_
      exact z_zret hx hb hr hlocks hsz hU (Or.inr rfl) ⟨rfl, by rw [hbv, hbr, if_pos]; exact vl_len h19 (hrtop.resolve_left (by omega))⟩ d_B_isLess_27
