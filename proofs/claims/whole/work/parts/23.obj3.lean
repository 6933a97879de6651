/-! UnitFinder: the walk along the ring -/
/-- steps, u and the number before it, as the class walks: at most f steps more -/
def wkS (D r : Nat) : Nat → Nat → Nat → Nat → Nat → Nat → Nat × Nat × Nat
  | 0, _, _, k, L, B => (k, L, B)
  | f + 1, b, c, k, L, B => if c ≤ 1 then (k, L, B) else wkS D r f (nxB r b c) (nxC D r b c) (k + 1) (((b + r) / (2 * c) * L + B) % MM) L
/-- the greatest b of the ring's first form -/
def fB (D : Nat) : Nat := rt D - (if (rt D + D) % 2 = 0 then 0 else 1)
def fC (D : Nat) : Nat := (D - fB D * fB D) / 4
def wk (D : Nat) : Nat × Nat × Nat := wkS D (rt D) 999999 (fB D) (fC D) 1 1 0
/-- D above 0 that can be taken -/
def dOk (D : Nat) : Prop := D ≤ 1048576 ∧ 2 ≤ rt D ∧ rt D ≤ 1024 ∧ rt D * rt D < D ∧ D < (rt D + 1) * (rt D + 1) ∧ D % 4 ≤ 1
theorem tk_dOk {D : Nat} (h : tk (D : Int)) (h0 : 0 < D) : dOk D := by
  obtain ⟨a1, a2, a3, a4⟩ := h
  obtain ⟨b1, b2⟩ := rt_spec (d := (D : Int)) (by omega) a2
  have c1 : rt D * rt D ≤ D := Int.ofNat_le.mp b1
  have c2 : D < (rt D + 1) * (rt D + 1) := Int.ofNat_lt.mp b2
  have c3 : rt D * rt D ≠ D := fun q => a4 (by rw [q])
  refine ⟨by omega, ?_, ?_, by omega, c2, by omega⟩
  · rcases Nat.lt_or_ge (rt D) 2 with q | q
    · exfalso
      rcases (show rt D = 0 ∨ rt D = 1 by omega) with w | w
      · rw [w] at c2; omega
      · rw [w] at c2 c3; omega
    · exact q
  · rcases Nat.lt_or_ge 1024 (rt D) with q | q
    · exfalso
      have := Nat.mul_le_mul (show 1025 ≤ rt D by omega) (show 1025 ≤ rt D by omega)
      omega
    · exact q
theorem sq_mod4 (b : Nat) : b * b % 4 = b % 2 := by
  have h : b * b % 4 = (b % 4) * (b % 4) % 4 := Nat.mul_mod b b 4
  rcases (show b % 4 = 0 ∨ b % 4 = 1 ∨ b % 4 = 2 ∨ b % 4 = 3 by omega) with q | q | q | q <;> rw [q] at h <;> omega
theorem first_red {D : Nat} (h : dOk D) : Red D (rt D) 1 (fB D) (fC D) := by
  obtain ⟨a1, a2, a3, a4, a5, a6⟩ := h
  have hb : fB D ≤ rt D := Nat.sub_le _ _
  have hb2 : rt D ≤ fB D + 1 := by unfold fB; split <;> omega
  have hb3 : fB D % 2 = D % 2 := by unfold fB; split <;> omega
  have hbb : fB D * fB D ≤ rt D * rt D := Nat.mul_le_mul hb hb
  have h4 := sq_mod4 (fB D)
  have e : D = fB D * fB D + 4 * (1 * fC D) := by
    unfold fC
    omega
  obtain ⟨f1, f2⟩ := red_flip a4 a5 hb e (by omega) (by omega)
  exact ⟨hb, Nat.le_refl 1, by omega, e, f1, f2⟩
set_option maxHeartbeats 4000000 in
set_option maxRecDepth 100000 in
theorem c_walkToOne (l : Launch) (z : ZZ) (sz : Nat) (g : St) {D : Nat} (hd : dOk D) : Met l y_U_walkToOne (zw y_U_walkToOne b_U_walkToOne 8 (some .int)) { frames := 3, cells := 0, slots := 0, locals := 78 } (va_Pc [.ref (mA z), .int (nI D)] (zI z g sz)) (va_Qi (fun x g2 => sU g g2 ∧ rOk g2 ∧ x = nI (wk D).1 ∧ bv (g2.2.2.2 8) = (wk D).2.1 ∧ bv (g2.2.2.2 9) = (fB D * (wk D).2.1 + 2 * (wk D).2.2) % MM) (zO z sz) (zA z sz)) 0 0 (zA z sz) := by
  refine z_ofW (by decide) (Nat.le_of_ble_eq_true rfl) (fun p e s m below meth c hx hb hr hml hown hts hlocks hname hsz hN ls hU hl => ?_)
  have hl : lv_has ls 8 [(0, .ref (mA z)), (1, .int (nI D))] := hl
  have hred := first_red hd
  obtain ⟨a1, a2, a3, a4, a5, a6⟩ := hd
  obtain ⟨r, er⟩ : ∃ y, y = rt D := ⟨_, rfl⟩
  obtain ⟨b0, eb0⟩ : ∃ y, y = fB D := ⟨_, rfl⟩
  obtain ⟨c00, ec0⟩ : ∃ y, y = fC D := ⟨_, rfl⟩
  rw [← er, ← eb0, ← ec0] at hred
  have ewk : wk D = wkS D r 999999 b0 c00 1 1 0 := by rw [wk, ← er, ← eb0, ← ec0]
  rw [← er] at a2 a3 a4 a5
  have E : ∀ (k L B b c7 : Nat) (g1 : St) (H : Heap) (locs : List Loc) (ls : Array Slot), wk D = (k, L, B) → sU g g1 → rOk g1 → recL g1 = L → recB g1 = B → Ws z g1 s.heap H locs s → lv_has ls 8 [(0, .ref (mA z)), (1, .int (nI D)), (2, .int (nI r)), (3, .int (nI b0)), (4, .int (nI b)), (5, .int (nI c7)), (6, .int (nI k))] → W p l e ({ frames := 3, cells := 0, slots := 0, locals := 78 } : Room) s m ([.ref (mA z), .int (nI D)] : List Value).toArray below meth c H locs 0 0 (MQ below (va_Qi (fun x g2 => sU g g2 ∧ rOk g2 ∧ x = nI (wk D).1 ∧ bv (g2.2.2.2 8) = (wk D).2.1 ∧ bv (g2.2.2.2 9) = (fB D * (wk D).2.1 + 2 * (wk D).2.2) % MM) (zO z sz) (zA z sz)) ([.ref (mA z), .int (nI D)] : List Value).toArray s 0 0 (zA z sz)) (F0 m 102 ls []) := by
    intro k L B b c7 g1 H locs ls hw hs hok hL hB hU hl
    refine lv_aload_n hx hb d_U_walkToOne_102 rfl (lv_at hl 0 rfl) ?_
    refine va_get (D := z.1) (ci := 0) (v := .ref (kA z)) (C := R_U) (T := F_U) (N := 11) hx hb hts in_U hown hU.2.1 hU.1 0 rfl rfl 8 (by decide) (hts _ k_U_40) (fun _ h9 => h9) rfl d_U_walkToOne_103 ?_
    refine lv_iload_n hx hb d_U_walkToOne_106 rfl (lv_at hl 3 rfl) ?_
    refine z_callv (z_run (As := [.int (nI b0)]) (rest := []) hx hb hml hown hts hU hN (c_finish l z _ g1 hok (A := b0) (by have := hred.1; omega)) (w_K_finish_cw hts k_U_172 rfl rfl ⟨Nat.le_of_ble_eq_true rfl, Nat.le_of_ble_eq_true rfl⟩) (z_recvK hU) rfl hl.1 rfl (lv_room (Nat.le_of_ble_eq_true rfl)) d_U_walkToOne_107 ⟨Nat.zero_le _, Nat.zero_le _⟩) hU (fun g107 H locs hp hU => ?_)
    obtain ⟨k1, k2, k3, k4⟩ := hp
    refine lv_iload hx hb d_U_walkToOne_110 (lv_at hl 6 rfl) ?_
    exact z_iret hx hb hr hlocks hsz hU ⟨hs.tr k1, k2, by rw [hw], by rw [hw, k3, hL], by rw [hw, k4, hL, hB, eb0]⟩ d_U_walkToOne_112
  have K : ∀ (f A b c7 k L B : Nat) (g1 : St) (H : Heap) (locs : List Loc) (ls : Array Slot), k + f = 1000000 → Red D r A b c7 → wk D = wkS D r f b c7 k L B → sU g g1 → rOk g1 → recL g1 = L → recB g1 = B → Ws z g1 s.heap H locs s → lv_has ls 8 [(0, .ref (mA z)), (1, .int (nI D)), (2, .int (nI r)), (3, .int (nI b0)), (4, .int (nI b)), (5, .int (nI c7)), (6, .int (nI k))] → W p l e ({ frames := 3, cells := 0, slots := 0, locals := 78 } : Room) s m ([.ref (mA z), .int (nI D)] : List Value).toArray below meth c H locs 0 0 (MQ below (va_Qi (fun x g2 => sU g g2 ∧ rOk g2 ∧ x = nI (wk D).1 ∧ bv (g2.2.2.2 8) = (wk D).2.1 ∧ bv (g2.2.2.2 9) = (fB D * (wk D).2.1 + 2 * (wk D).2.2) % MM) (zO z sz) (zA z sz)) ([.ref (mA z), .int (nI D)] : List Value).toArray s 0 0 (zA z sz)) (F0 m 37 ls []) := by
    intro f
    induction f with
    | zero =>
      intro A b c7 k L B g1 H locs ls hk hR hw hs hok hL hB hU hl
      have hk : k = 1000000 := by omega
      refine lv_iload hx hb d_U_walkToOne_37 (lv_at hl 5 rfl) ?_
      refine lv_iconst (v := 1) hx hb d_U_walkToOne_39 (by decide) ?_
      refine lv_icmp_le (tgt := 102) hx hb d_U_walkToOne_40 (by decide) (fun c40 => ?_) (fun c40 => ?_)
      · exact E k L B b c7 g1 _ _ ls hw hs hok hL hB hU hl
      · refine lv_iload hx hb d_U_walkToOne_43 (lv_at hl 6 rfl) ?_
        refine lv_ldc (v := 1000000) hx hb hown (hts _ k_U_168) d_U_walkToOne_45 ?_
        refine lv_icmp_ge (tgt := 102) hx hb d_U_walkToOne_47 (by decide) (fun c47 => ?_) (fun c47 => ?_)
        · exact E k L B b c7 g1 _ _ ls hw hs hok hL hB hU hl
        · exact absurd (by rw [hk]; exact Int32.le_refl _) c47
    | succ f ih =>
      intro A b c7 k L B g1 H locs ls hk hR hw hs hok hL hB hU hl
      have hNx := hR.next a4 a5
      obtain ⟨hb2, hA, hc, e, h1, h2⟩ := id hR
      obtain ⟨n1, n2, n3, n4, n5⟩ := nx_b hb2 hc h1 h2
      obtain ⟨m1, m2⟩ := nx_c a4 hR
      refine lv_iload hx hb d_U_walkToOne_37 (lv_at hl 5 rfl) ?_
      refine lv_iconst (v := 1) hx hb d_U_walkToOne_39 (by decide) ?_
      refine lv_icmp_le (tgt := 102) hx hb d_U_walkToOne_40 (by decide) (fun c40 => ?_) (fun c40 => ?_)
      · have h40 : c7 ≤ 1 := (nI_leI (a := c7) (b := 1) (by omega) (by decide)).mp c40
        rw [wkS, if_pos h40] at hw
        exact E k L B b c7 g1 _ _ ls hw hs hok hL hB hU hl
      · have h40 : ¬ c7 ≤ 1 := fun q => c40 ((nI_leI (a := c7) (b := 1) (by omega) (by decide)).mpr q)
        rw [wkS, if_neg h40] at hw
        refine lv_iload hx hb d_U_walkToOne_43 (lv_at hl 6 rfl) ?_
        refine lv_ldc (v := 1000000) hx hb hown (hts _ k_U_168) d_U_walkToOne_45 ?_
        refine lv_icmp_ge (tgt := 102) hx hb d_U_walkToOne_47 (by decide) (fun c47 => ?_) (fun c47 => ?_)
        · exact absurd c47 (nI_ge (a := k) (b := 1000000) (by omega) (by decide))
        · refine lv_iload hx hb d_U_walkToOne_50 (lv_at hl 4 rfl) ?_
          refine lv_iload_n hx hb d_U_walkToOne_52 rfl (lv_at hl 2 rfl) ?_
          refine lv_iadd hx hb d_U_walkToOne_53 ?_
          refine lv_topi (fun x53 ex53 => ?_)
          refine lv_iconst (v := 2) hx hb d_U_walkToOne_54 (by decide) ?_
          refine lv_iload hx hb d_U_walkToOne_55 (lv_at hl 5 rfl) ?_
          refine lv_imul hx hb d_U_walkToOne_57 ?_
          refine lv_topi (fun x57 ex57 => ?_)
          have e53 : x53 = nI (b + r) := by rw [ex53, nI_add]
          have e57 : x57 = nI (2 * c7) := by rw [ex57]; exact pk_mul 2 c7
          have hne58 : ¬ x57 = 0 := by rw [e57]; exact nI_ne0 (by omega) (by omega)
          refine lv_idiv hx hb d_U_walkToOne_58 hne58 ?_
          refine lv_topi (fun x58 ex58 => ?_)
          refine lv_istore (lv' := [(7, .int x58), (0, .ref (mA z)), (1, .int (nI D)), (2, .int (nI r)), (3, .int (nI b0)), (4, .int (nI b)), (5, .int (nI c7)), (6, .int (nI k))]) hx hb d_U_walkToOne_59 hl (by decide) rfl (fun ls hl => ?_)
          refine lv_aload_n hx hb d_U_walkToOne_61 rfl (lv_at hl 1 rfl) ?_
          refine va_get (D := z.1) (ci := 0) (v := .ref (kA z)) (C := R_U) (T := F_U) (N := 11) hx hb hts in_U hown hU.2.1 hU.1 0 rfl rfl 8 (by decide) (hts _ k_U_40) (fun _ h9 => h9) rfl d_U_walkToOne_62 ?_
          refine lv_iload hx hb d_U_walkToOne_65 (lv_at hl 0 rfl) ?_
          have e58 : x58 = nI ((b + r) / (2 * c7)) := by rw [ex58, e53, e57]; exact pk_div (by omega) (by omega) (by omega)
          obtain ⟨q, eq⟩ : ∃ y, y = (b + r) / (2 * c7) := ⟨_, rfl⟩
          rw [← eq] at e58
          have hq : q ≤ 2048 := by rw [eq]; exact Nat.le_trans (Nat.div_le_self _ _) (by omega)
          have hqX : 2 * c7 * q ≤ b + r := by rw [eq]; exact Nat.mul_div_le _ _
          rw [e58] at hl ⊢
          refine z_callv (z_run (As := [.int (nI q)]) (rest := []) hx hb hml hown hts hU hN (c_step l z _ g1 hok (Q := q) (by omega)) (w_K_step_cw hts k_U_169 rfl rfl ⟨Nat.le_of_ble_eq_true rfl, Nat.le_of_ble_eq_true rfl⟩) (z_recvK hU) rfl hl.1 rfl (lv_room (Nat.le_of_ble_eq_true rfl)) d_U_walkToOne_67 ⟨Nat.zero_le _, Nat.zero_le _⟩) hU (fun g67 H locs hp hU => ?_)
          obtain ⟨k1, k2, k3, k4⟩ := hp
          refine lv_iconst (v := 2) hx hb d_U_walkToOne_70 (by decide) ?_
          refine lv_iload hx hb d_U_walkToOne_71 (lv_at hl 6 rfl) ?_
          refine lv_imul hx hb d_U_walkToOne_73 ?_
          refine lv_topi (fun x73 ex73 => ?_)
          refine lv_iload hx hb d_U_walkToOne_74 (lv_at hl 0 rfl) ?_
          refine lv_imul hx hb d_U_walkToOne_76 ?_
          refine lv_topi (fun x76 ex76 => ?_)
          refine lv_iload hx hb d_U_walkToOne_77 (lv_at hl 5 rfl) ?_
          refine lv_isub hx hb d_U_walkToOne_79 ?_
          refine lv_topi (fun x79 ex79 => ?_)
          refine lv_istore (lv' := [(4, .int x79), (7, .int (nI q)), (0, .ref (mA z)), (1, .int (nI D)), (2, .int (nI r)), (3, .int (nI b0)), (5, .int (nI c7)), (6, .int (nI k))]) hx hb d_U_walkToOne_80 hl (by decide) rfl (fun ls hl => ?_)
          refine lv_iload_n hx hb d_U_walkToOne_82 rfl (lv_at hl 3 rfl) ?_
          refine lv_iload hx hb d_U_walkToOne_83 (lv_at hl 0 rfl) ?_
          refine lv_iload hx hb d_U_walkToOne_85 (lv_at hl 0 rfl) ?_
          refine lv_imul hx hb d_U_walkToOne_87 ?_
          refine lv_topi (fun x87 ex87 => ?_)
          refine lv_isub hx hb d_U_walkToOne_88 ?_
          refine lv_topi (fun x88 ex88 => ?_)
          refine lv_iconst (v := 4) hx hb d_U_walkToOne_89 (by decide) ?_
          refine lv_iload hx hb d_U_walkToOne_90 (lv_at hl 6 rfl) ?_
          refine lv_imul hx hb d_U_walkToOne_92 ?_
          refine lv_topi (fun x92 ex92 => ?_)
          have e73 : x73 = nI (2 * c7) := by rw [ex73]; exact pk_mul 2 c7
          have e76 : x76 = nI (2 * c7 * q) := by rw [ex76, e73]; exact pk_mul _ _
          have eX : nxB r b c7 = 2 * c7 * q - b := by rw [eq]; rfl
          have e79 : x79 = nI (nxB r b c7) := by
            rw [ex79, e76, eX]
            exact pk_sub (by rw [eq]; exact n1)
          have hsq : nxB r b c7 * nxB r b c7 ≤ D := by omega
          have e87 : x87 = nI (nxB r b c7 * nxB r b c7) := by rw [ex87, e79]; exact pk_mul _ _
          have e88 : x88 = nI (D - nxB r b c7 * nxB r b c7) := by rw [ex88, e87]; exact pk_sub hsq
          have e92 : x92 = nI (4 * c7) := by rw [ex92]; exact pk_mul 4 c7
          have hne93 : ¬ x92 = 0 := by rw [e92]; exact nI_ne0 (by omega) (by omega)
          refine lv_idiv hx hb d_U_walkToOne_93 hne93 ?_
          refine lv_topi (fun x93 ex93 => ?_)
          refine lv_istore (lv' := [(5, .int x93), (4, .int x79), (7, .int (nI q)), (0, .ref (mA z)), (1, .int (nI D)), (2, .int (nI r)), (3, .int (nI b0)), (6, .int (nI k))]) hx hb d_U_walkToOne_94 hl (by decide) rfl (fun ls hl => ?_)
          obtain ⟨x96, ex96⟩ : ∃ y : Int32, y = (nI k) + Int32.ofInt 1 := ⟨_, rfl⟩
          refine lv_iinc (v := x96) (lv' := [(6, .int x96), (5, .int x93), (4, .int x79), (7, .int (nI q)), (0, .ref (mA z)), (1, .int (nI D)), (2, .int (nI r)), (3, .int (nI b0))]) hx hb d_U_walkToOne_96 hl (k := 7) rfl (by rw [ex96]) (by decide) rfl (fun ls hl => ?_)
          refine lv_goto (tgt := 37) hx hb d_U_walkToOne_99 (by decide) ?_
          have e93 : x93 = nI (nxC D r b c7) := by rw [ex93, e88, e92]; exact pk_div (by omega) (by omega) (by omega)
          rw [e93, e79, ex96, show Int32.ofInt 1 = 1 from rfl, nI_1] at hl
          exact ih c7 (nxB r b c7) (nxC D r b c7) (k + 1) _ _ g67 _ _ ls (by omega) hNx hw (hs.tr k1) k2 (by rw [k3, hL, hB, eq]) (by rw [k4, hL]) hU (lv_sub hl [4, 5, 6, 7, 2, 1, 0] rfl)
  refine lv_iload_n hx hb d_U_walkToOne_0 rfl (lv_at hl 1 rfl) ?_
  refine pr_call (As := [.int (nI D)]) (rest := []) hx hb hml hown hts (c_rootOf l (nI D)) (w_U_rootOf_cw hts k_U_128 rfl rfl ⟨Nat.le_of_ble_eq_true rfl, Nat.le_of_ble_eq_true rfl⟩) rfl hl.1 rfl (lv_room (Nat.le_of_ble_eq_true rfl)) d_U_walkToOne_1 ⟨Nat.zero_le _, Nat.zero_le _⟩ ?_
  refine lv_topi (fun x1 ex1 => ?_)
  have e1 : x1 = nI r := by rw [ex1, nI_toInt (by omega), er]
  rw [e1]
  refine lv_istore_n (lv' := [(2, .int (nI r)), (0, .ref (mA z)), (1, .int (nI D))]) hx hb d_U_walkToOne_4 rfl hl (by decide) rfl (fun ls hl => ?_)
  refine lv_iload_n hx hb d_U_walkToOne_5 rfl (lv_at hl 0 rfl) ?_
  refine lv_iload_n hx hb d_U_walkToOne_6 rfl (lv_at hl 0 rfl) ?_
  refine lv_iload_n hx hb d_U_walkToOne_7 rfl (lv_at hl 2 rfl) ?_
  refine lv_isub hx hb d_U_walkToOne_8 ?_
  refine lv_topi (fun x8 ex8 => ?_)
  refine lv_iconst (v := 1) hx hb d_U_walkToOne_9 (by decide) ?_
  refine lv_iand hx hb d_U_walkToOne_10 ?_
  refine lv_topi (fun x10 ex10 => ?_)
  refine lv_isub hx hb d_U_walkToOne_11 ?_
  refine lv_topi (fun x11 ex11 => ?_)
  refine lv_istore_n (lv' := [(3, .int x11), (2, .int (nI r)), (0, .ref (mA z)), (1, .int (nI D))]) hx hb d_U_walkToOne_12 rfl hl (by decide) rfl (fun ls hl => ?_)
  refine lv_iload_n hx hb d_U_walkToOne_13 rfl (lv_at hl 0 rfl) ?_
  refine lv_istore (lv' := [(4, .int x11), (3, .int x11), (2, .int (nI r)), (0, .ref (mA z)), (1, .int (nI D))]) hx hb d_U_walkToOne_14 hl (by decide) rfl (fun ls hl => ?_)
  refine lv_iload_n hx hb d_U_walkToOne_16 rfl (lv_at hl 4 rfl) ?_
  refine lv_iload hx hb d_U_walkToOne_17 (lv_at hl 0 rfl) ?_
  refine lv_iload hx hb d_U_walkToOne_19 (lv_at hl 0 rfl) ?_
  refine lv_imul hx hb d_U_walkToOne_21 ?_
  refine lv_topi (fun x21 ex21 => ?_)
  refine lv_isub hx hb d_U_walkToOne_22 ?_
  refine lv_topi (fun x22 ex22 => ?_)
  refine lv_iconst (v := 4) hx hb d_U_walkToOne_23 (by decide) ?_
  have t8 : x8.toInt = (r : Int) - D := by rw [ex8, Jvm.Kit.i32_sub] <;> rw [nI_toInt (by omega), nI_toInt (by omega)] <;> omega
  have t10 : x10.toInt = ((r : Int) - D) % 2 := by rw [ex10, ← t8]; exact Jvm.Kit.i32_mask x8 1 (k := 1) (by decide) (by decide)
  have e11 : x11 = nI b0 := by
    apply Int32.toInt_inj.mp
    rw [ex11, Jvm.Kit.i32_sub, nI_toInt (by omega), nI_toInt (by have := hred.1; omega), t10, eb0, fB, ← er]
    · split <;> omega
    · rw [nI_toInt (by omega), t10]; omega
    · rw [nI_toInt (by omega), t10]; omega
  have hb9 := hred.1
  have hbb : b0 * b0 ≤ r * r := Nat.mul_le_mul hb9 hb9
  have e21 : x21 = nI (b0 * b0) := by rw [ex21, e11]; exact pk_mul _ _
  have e22 : x22 = nI (D - b0 * b0) := by rw [ex22, e21]; exact pk_sub (by omega)
  have hne24 : ¬ (4 : Int32) = 0 := by decide
  refine lv_idiv hx hb d_U_walkToOne_24 hne24 ?_
  refine lv_topi (fun x24 ex24 => ?_)
  refine lv_istore (lv' := [(5, .int x24), (4, .int x11), (3, .int x11), (2, .int (nI r)), (0, .ref (mA z)), (1, .int (nI D))]) hx hb d_U_walkToOne_25 hl (by decide) rfl (fun ls hl => ?_)
  refine lv_iconst (v := 1) hx hb d_U_walkToOne_27 (by decide) ?_
  refine lv_istore (lv' := [(6, .int 1), (5, .int x24), (4, .int x11), (3, .int x11), (2, .int (nI r)), (0, .ref (mA z)), (1, .int (nI D))]) hx hb d_U_walkToOne_28 hl (by decide) rfl (fun ls hl => ?_)
  refine lv_aload_n hx hb d_U_walkToOne_30 rfl (lv_at hl 5 rfl) ?_
  refine va_get (D := z.1) (ci := 0) (v := .ref (kA z)) (C := R_U) (T := F_U) (N := 11) hx hb hts in_U hown hU.2.1 hU.1 0 rfl rfl 8 (by decide) (hts _ k_U_40) (fun _ h9 => h9) rfl d_U_walkToOne_31 ?_
  have e24 : x24 = nI c00 := by
    rw [ex24, e22, ec0, fC, ← eb0]
    exact pk_div (d := 4) (by omega) (by decide) (by decide)
  rw [e24, e11] at hl
  refine z_callv (z_run (As := []) (rest := []) hx hb hml hown hts hU hN (c_start l z _ g) (w_K_start_cw hts k_U_165 rfl rfl ⟨Nat.le_of_ble_eq_true rfl, Nat.le_of_ble_eq_true rfl⟩) (z_recvK hU) rfl hl.1 rfl (lv_room (Nat.le_of_ble_eq_true rfl)) d_U_walkToOne_34 ⟨Nat.zero_le _, Nat.zero_le _⟩) hU (fun g34 H locs hp hU => ?_)
  obtain ⟨k1, k2, k3, k4⟩ := hp
  exact K 999999 1 b0 c00 1 1 0 g34 _ _ ls (by decide) hred ewk k1 k2 k3 k4 hU (lv_sub hl [5, 6, 4, 3, 2, 1, 0] rfl)
