/-! the class's public methods, where they answer -/
def zOr (i : Nat) (z : ZZ) (sz : Nat) (g : St) (a : Nat) (t : State) : Prop := zO z sz g t ∧ a = oA z i
section ZRef
variable {p : Program} {l : Launch} {e : Env} {R : Room} {s : State} {m : MethodId} {args : Array Value} {below : List Frame} {meth : Method} {c : Code} {H H0 : Heap} {locs : List Loc} {cells slots : Nat} {Q : State → Prop} {cc : ByteArray} {pc : Nat} {ls : Array Slot} {st0 rest : List Value} {z : ZZ} {g : St} {a : Array Value}
theorem z_aret {post : St → Prop} {sz i : Nat} {rt : String} (hx : p.tables.exec = Jvm.exec) (hb : c.code = cc) (hr : meth.sig.returnType = some (.object rt)) (hlocks : meth.locks = false) (hsz : s.heap.size = sz) (hU : Ws z g s.heap H locs s) (hp : post g) (hdg : decode cc pc = .ok (.areturn, 1)) :
    W p l e R s m args below meth c H locs 0 0 (MQ below (va_Qr post (zOr i z sz) (zA z sz)) args s 0 0 (zA z sz)) (F0 m pc ls [.ref (oA z i)]) := by
  subst hsz
  exact W.aret hx hb hr (Or.inl ⟨rt, rfl⟩) (Or.inr ⟨_, rfl⟩) (fun t ht hW => ⟨⟨g, oA z i, rfl, hp, ⟨by rw [ht]; exact hU.1, va_K.moved hW.alike hU.2.1, hU.2.2.1⟩, rfl⟩, hU.2.2.2.F ht⟩) hU.2.2.2.2.2 hdg
theorem z_callr {post : St → Prop} {i : Nat} (hr : va_Run p l e R s m args below meth c H locs cells slots 0 0 (F0 m pc ls st0) rest (va_Qr post (zOr i z H.size) (zA z H.size) a) (zA z H.size)) (hU : Ws z g H0 H locs s)
    (kk : ∀ (g' : St) (H1 : Heap) (locs1 : List Loc), post g' → Ws z g' H0 H1 locs1 s → W p l e R s m args below meth c H1 locs1 cells slots Q (F0 m (pc + 3) ls (.ref (oA z i) :: rest))) : W p l e R s m args below meth c H locs cells slots Q (F0 m pc ls st0) := by
  have hle := hU.2.2.2.1
  refine va_callr hr hU.2.2.2 (fun q _ h => zA_le hle h) (fun q h => zA_le hle h) (fun u ra t H1 locs1 ht hvm hw hB hz1 hk1 hS => ?_)
  obtain ⟨⟨hP1, hK1, hD1⟩, rfl⟩ := hB
  rw [ht] at hP1
  exact kk u H1 locs1 hw ⟨hP1, va_K.moved hvm.symm hK1, ⟨hD1.1, fun k q h => zA_le hle (hD1.2 k q h)⟩, hS⟩
end ZRef
theorem sw_7 (x : Int32) : x = 0 ∨ x = 1 ∨ x = 2 ∨ x = 3 ∨ x = 4 ∨ x = 5 ∨ x = 6 ∨ x = 7 ∨ (x.toInt < 0 ∨ 7 < x.toInt) := by
  have h : ∀ n : Nat, n < 8 → x.toInt = (n : Int) → x = nI n := fun n hn h => by apply Int32.toInt_inj.mp; rw [nI_toInt (by omega)]; exact h
  rcases Int.lt_or_le x.toInt 0 with q | q
  · simp [q]
  rcases Int.lt_or_le 7 x.toInt with w | w
  · simp [w]
  rcases (show x.toInt = (0 : Nat) ∨ x.toInt = (1 : Nat) ∨ x.toInt = (2 : Nat) ∨ x.toInt = (3 : Nat) ∨ x.toInt = (4 : Nat) ∨ x.toInt = (5 : Nat) ∨ x.toInt = (6 : Nat) ∨ x.toInt = (7 : Nat) by omega) with a | a | a | a | a | a | a | a
  · exact Or.inl (h 0 (by decide) a)
  · exact Or.inr (Or.inl (h 1 (by decide) a))
  · exact Or.inr (Or.inr (Or.inl (h 2 (by decide) a)))
  · exact Or.inr (Or.inr (Or.inr (Or.inl (h 3 (by decide) a))))
  · exact Or.inr (Or.inr (Or.inr (Or.inr (Or.inl (h 4 (by decide) a)))))
  · exact Or.inr (Or.inr (Or.inr (Or.inr (Or.inr (Or.inl (h 5 (by decide) a))))))
  · exact Or.inr (Or.inr (Or.inr (Or.inr (Or.inr (Or.inr (Or.inl (h 6 (by decide) a)))))))
  · exact Or.inr (Or.inr (Or.inr (Or.inr (Or.inr (Or.inr (Or.inr (Or.inl (h 7 (by decide) a))))))))
set_option maxHeartbeats 4000000 in
set_option maxRecDepth 100000 in
theorem c_countBits (l : Launch) (z : ZZ) (sz : Nat) (g : St) {i : Nat} (hi : i < 10) (hok : bOk (g.2.2.2 i)) : Met l y_B_countBits (zw y_B_countBits b_B_countBits 1 (some .int)) { frames := 1, cells := 0, slots := 0, locals := 21 } (va_Pc [.ref (oA z i)] (zI z g sz)) (va_Qi (fun r g2 => g2 = g ∧ r = nI (bl (bv (g.2.2.2 i)))) (zO z sz) (zA z sz)) 0 0 (zA z sz) := by
  refine z_ofW (by decide) (Nat.le_of_ble_eq_true rfl) (fun p e s m below meth c hx hb hr hml hown hts hlocks hname hsz hN ls hU hl => ?_)
  have hl : lv_has ls 1 [(0, .ref (oA z i))] := hl
  obtain ⟨n, hn, hn1, hbel, htop⟩ := hok
  have hbv : bv (g.2.2.2 i) = vl (g.2.2.2 i).2.2 n := bv_of hn hn1
  refine lv_aload_n hx hb d_B_countBits_0 rfl (lv_at hl 0 rfl) ?_
  refine va_get (D := z.1) (ci := 2) (v := .int ((g.2.2.2 i).1)) (C := R_B) (T := F_B) (N := 3) hx hb hts in_B hown hU.2.1 hU.1 (2 + 2 * i) (uw_o z g hi) rfl 1 (by decide) (hts _ k_B_23) (fun _ h9 => h9) rfl d_B_countBits_1 ?_
  refine lv_topi (fun x1 ex1 => ?_)
  refine lv_if_ne (tgt := 9) hx hb d_B_countBits_4 (by decide) (fun c4 => ?_) (fun c4 => ?_)
  · have h4 : 0 < n := Nat.pos_of_ne_zero (fun q => c4 (by rw [ex1, hn1, q]; rfl))
    have ht := htop.resolve_left (by omega)
    obtain ⟨k, ek⟩ : ∃ k, n = k + 1 := ⟨n - 1, by omega⟩
    refine lv_bipush (v := 32) hx hb d_B_countBits_9 (by decide) ?_
    refine lv_aload_n hx hb d_B_countBits_11 rfl (lv_at hl 0 rfl) ?_
    refine va_get (D := z.1) (ci := 2) (v := .int ((g.2.2.2 i).1)) (C := R_B) (T := F_B) (N := 3) hx hb hts in_B hown hU.2.1 hU.1 (2 + 2 * i) (uw_o z g hi) rfl 1 (by decide) (hts _ k_B_23) (fun _ h9 => h9) rfl d_B_countBits_12 ?_
    refine lv_topi (fun x12 ex12 => ?_)
    refine lv_imul hx hb d_B_countBits_15 ?_
    refine lv_topi (fun x15 ex15 => ?_)
    refine lv_aload_n hx hb d_B_countBits_16 rfl (lv_at hl 0 rfl) ?_
    refine va_get (D := z.1) (ci := 2) (v := .ref (rA z i)) (C := R_B) (T := F_B) (N := 3) hx hb hts in_B hown hU.2.1 hU.1 (2 + 2 * i) (uw_o z g hi) rfl 0 (by decide) (hts _ k_B_9) (fun _ h9 => h9) rfl d_B_countBits_17 ?_
    refine lv_aload_n hx hb d_B_countBits_20 rfl (lv_at hl 0 rfl) ?_
    refine va_get (D := z.1) (ci := 2) (v := .int ((g.2.2.2 i).1)) (C := R_B) (T := F_B) (N := 3) hx hb hts in_B hown hU.2.1 hU.1 (2 + 2 * i) (uw_o z g hi) rfl 1 (by decide) (hts _ k_B_23) (fun _ h9 => h9) rfl d_B_countBits_21 ?_
    refine lv_topi (fun x21 ex21 => ?_)
    refine lv_iconst (v := 1) hx hb d_B_countBits_24 (by decide) ?_
    refine lv_isub hx hb d_B_countBits_25 ?_
    refine lv_topi (fun x25 ex25 => ?_)
    have e25 : x25 = nI k := by rw [ex25, ex21, hn1, ek]; exact nI_pred k
    have hin26 : vp_in x25 512 := by rw [e25]; exact vp_in_nI (by omega) (by omega)
    refine va_iald hx hb hU.2.1 hU.1 (3 + 2 * i) i (uw_w z g hi) (zty_a z hi) hin26 d_B_countBits_26 ?_
    refine lv_topi (fun x26 ex26 => ?_)
    have e26 : x26 = (g.2.2.2 i).2.2 k := by rw [ex26, e25, nI_clamp (by omega)]
    have ht2 : wn x26 ≠ 0 := by rw [e26, show k = n - 1 by omega]; exact ht
    refine pr_call (As := [.int x26]) (rest := [.int x15]) hx hb hml hown hts (c_nlz l x26 (fun q => ht2 (by rw [q]; rfl))) (w_JI_numberOfLeadingZeros_cw hts k_B_33 rfl rfl ⟨Nat.le_of_ble_eq_true rfl, Nat.le_of_ble_eq_true rfl⟩) rfl hl.1 rfl (lv_room (Nat.le_of_ble_eq_true rfl)) d_B_countBits_27 ⟨Nat.zero_le _, Nat.zero_le _⟩ ?_
    refine lv_topi (fun x27 ex27 => ?_)
    refine lv_isub hx hb d_B_countBits_30 ?_
    refine lv_topi (fun x30 ex30 => ?_)
    have hb32 : bl (wn x26) ≤ 32 := bl_le (wn_lt x26)
    have hV : bl (bv (g.2.2.2 i)) = 32 * k + bl (wn x26) := by
      rw [hbv, ek, vl_s, e26]
      have hl9 := vl_lt (g.2.2.2 i).2.2 k
      rw [show (4294967296 : Nat) ^ k = 2 ^ (32 * k) by rw [Nat.pow_mul]] at hl9 ⊢
      exact bl_top hl9 (Nat.pos_of_ne_zero (by rw [← e26]; exact ht2))
    have e15 : x15.toInt = 32 * (k + 1) := by
      rw [ex15, ex12, hn1, ek, Jvm.Kit.i32_mul] <;> rw [nI_toInt (by omega), show (32 : Int32).toInt = 32 from rfl] <;> omega
    have e30 : x30 = nI (bl (bv (g.2.2.2 i))) := by
      apply Int32.toInt_inj.mp
      rw [ex30, ex27, nI_toInt (by omega), Jvm.Kit.i32_sub] <;> rw [e15, nI_toInt (by omega)] <;> omega
    exact z_iret hx hb hr hlocks hsz hU ⟨rfl, e30⟩ d_B_countBits_31
  · have h4 : n = 0 := by
      have q : nI n = 0 := by rw [← hn1, ← ex1]; exact c4
      exact Nat.eq_zero_of_not_pos (fun h => nI_ne0 h (by omega) q)
    refine lv_iconst (v := 0) hx hb d_B_countBits_7 (by decide) ?_
    exact z_iret hx hb hr hlocks hsz hU ⟨rfl, by rw [hbv, h4]; rfl⟩ d_B_countBits_8
set_option maxHeartbeats 4000000 in
set_option maxRecDepth 100000 in
theorem c_numberAt (l : Launch) (z : ZZ) (sz : Nat) (g : St) {i : Nat} (hi : i < 8) {x : Int32} (hxi : x = nI i) : Met l y_U_numberAt (zw y_U_numberAt b_U_numberAt 2 (some (.object "UnitFinder$Big"))) { frames := 7, cells := 0, slots := 0, locals := 130 } (va_Pc [.ref (mA z), .int x] (zI z g sz)) (va_Qr (fun g2 => g2 = g) (zOr i z sz) (zA z sz)) 0 0 (zA z sz) := by
  refine z_ofW (by decide) (Nat.le_of_ble_eq_true rfl) (fun p e s m below meth c hx hb hr hml hown hts hlocks hname hsz hN ls hU hl => ?_)
  have hl : lv_has ls 2 [(0, .ref (mA z)), (1, .int x)] := hl
  have hni : ∀ j, j < 8 → x = nI j → i = j := fun j hj q => by
    have w : (nI i).toInt = (nI j).toInt := by rw [← hxi, ← q]
    rw [nI_toInt (by omega), nI_toInt (by omega)] at w
    omega
  refine lv_iload_n hx hb d_U_numberAt_0 rfl (lv_at hl 1 rfl) ?_
  rcases sw_7 x with w | w | w | w | w | w | w | w | w
  · refine lv_tableIn hx hb d_U_numberAt_1 (by rw [w]; decide) (by rw [w]; decide) (off := 47) (by rw [w]; rfl) (tgt := 48) (by decide) ?_
    obtain rfl : i = 0 := hni 0 (by decide) w
    refine lv_aload_n hx hb d_U_numberAt_48 rfl (lv_at hl 0 rfl) ?_
    refine va_get (D := z.1) (ci := 0) (v := .ref (oA z 0)) (C := R_U) (T := F_U) (N := 11) hx hb hts in_U hown hU.2.1 hU.1 0 rfl rfl 0 (by decide) (hts _ k_U_10) (fun _ h9 => h9) rfl d_U_numberAt_49 ?_
    exact z_aret hx hb hr hlocks hsz hU rfl d_U_numberAt_52
  · refine lv_tableIn hx hb d_U_numberAt_1 (by rw [w]; decide) (by rw [w]; decide) (off := 52) (by rw [w]; rfl) (tgt := 53) (by decide) ?_
    obtain rfl : i = 1 := hni 1 (by decide) w
    refine lv_aload_n hx hb d_U_numberAt_53 rfl (lv_at hl 0 rfl) ?_
    refine va_get (D := z.1) (ci := 0) (v := .ref (oA z 1)) (C := R_U) (T := F_U) (N := 11) hx hb hts in_U hown hU.2.1 hU.1 0 rfl rfl 1 (by decide) (hts _ k_U_16) (fun _ h9 => h9) rfl d_U_numberAt_54 ?_
    exact z_aret hx hb hr hlocks hsz hU rfl d_U_numberAt_57
  · refine lv_tableIn hx hb d_U_numberAt_1 (by rw [w]; decide) (by rw [w]; decide) (off := 57) (by rw [w]; rfl) (tgt := 58) (by decide) ?_
    obtain rfl : i = 2 := hni 2 (by decide) w
    refine lv_aload_n hx hb d_U_numberAt_58 rfl (lv_at hl 0 rfl) ?_
    refine va_get (D := z.1) (ci := 0) (v := .ref (oA z 2)) (C := R_U) (T := F_U) (N := 11) hx hb hts in_U hown hU.2.1 hU.1 0 rfl rfl 2 (by decide) (hts _ k_U_19) (fun _ h9 => h9) rfl d_U_numberAt_59 ?_
    exact z_aret hx hb hr hlocks hsz hU rfl d_U_numberAt_62
  · refine lv_tableIn hx hb d_U_numberAt_1 (by rw [w]; decide) (by rw [w]; decide) (off := 62) (by rw [w]; rfl) (tgt := 63) (by decide) ?_
    obtain rfl : i = 3 := hni 3 (by decide) w
    refine lv_aload_n hx hb d_U_numberAt_63 rfl (lv_at hl 0 rfl) ?_
    refine va_get (D := z.1) (ci := 0) (v := .ref (oA z 3)) (C := R_U) (T := F_U) (N := 11) hx hb hts in_U hown hU.2.1 hU.1 0 rfl rfl 3 (by decide) (hts _ k_U_22) (fun _ h9 => h9) rfl d_U_numberAt_64 ?_
    exact z_aret hx hb hr hlocks hsz hU rfl d_U_numberAt_67
  · refine lv_tableIn hx hb d_U_numberAt_1 (by rw [w]; decide) (by rw [w]; decide) (off := 67) (by rw [w]; rfl) (tgt := 68) (by decide) ?_
    obtain rfl : i = 4 := hni 4 (by decide) w
    refine lv_aload_n hx hb d_U_numberAt_68 rfl (lv_at hl 0 rfl) ?_
    refine va_get (D := z.1) (ci := 0) (v := .ref (oA z 4)) (C := R_U) (T := F_U) (N := 11) hx hb hts in_U hown hU.2.1 hU.1 0 rfl rfl 4 (by decide) (hts _ k_U_25) (fun _ h9 => h9) rfl d_U_numberAt_69 ?_
    exact z_aret hx hb hr hlocks hsz hU rfl d_U_numberAt_72
  · refine lv_tableIn hx hb d_U_numberAt_1 (by rw [w]; decide) (by rw [w]; decide) (off := 72) (by rw [w]; rfl) (tgt := 73) (by decide) ?_
    obtain rfl : i = 5 := hni 5 (by decide) w
    refine lv_aload_n hx hb d_U_numberAt_73 rfl (lv_at hl 0 rfl) ?_
    refine va_get (D := z.1) (ci := 0) (v := .ref (oA z 5)) (C := R_U) (T := F_U) (N := 11) hx hb hts in_U hown hU.2.1 hU.1 0 rfl rfl 5 (by decide) (hts _ k_U_28) (fun _ h9 => h9) rfl d_U_numberAt_74 ?_
    exact z_aret hx hb hr hlocks hsz hU rfl d_U_numberAt_77
  · refine lv_tableIn hx hb d_U_numberAt_1 (by rw [w]; decide) (by rw [w]; decide) (off := 77) (by rw [w]; rfl) (tgt := 78) (by decide) ?_
    obtain rfl : i = 6 := hni 6 (by decide) w
    refine lv_aload_n hx hb d_U_numberAt_78 rfl (lv_at hl 0 rfl) ?_
    refine va_get (D := z.1) (ci := 0) (v := .ref (oA z 6)) (C := R_U) (T := F_U) (N := 11) hx hb hts in_U hown hU.2.1 hU.1 0 rfl rfl 6 (by decide) (hts _ k_U_31) (fun _ h9 => h9) rfl d_U_numberAt_79 ?_
    exact z_aret hx hb hr hlocks hsz hU rfl d_U_numberAt_82
  · refine lv_tableIn hx hb d_U_numberAt_1 (by rw [w]; decide) (by rw [w]; decide) (off := 82) (by rw [w]; rfl) (tgt := 83) (by decide) ?_
    obtain rfl : i = 7 := hni 7 (by decide) w
    refine lv_aload_n hx hb d_U_numberAt_83 rfl (lv_at hl 0 rfl) ?_
    refine va_get (D := z.1) (ci := 0) (v := .ref (oA z 7)) (C := R_U) (T := F_U) (N := 11) hx hb hts in_U hown hU.2.1 hU.1 0 rfl rfl 7 (by decide) (hts _ k_U_34) (fun _ h9 => h9) rfl d_U_numberAt_84 ?_
    exact z_aret hx hb hr hlocks hsz hU rfl d_U_numberAt_87
  · refine lv_tableOut hx hb d_U_numberAt_1 (tgt := 88) w (by decide) ?_
    exact absurd w (by rw [hxi, nI_toInt (by omega)]; omega)
set_option maxHeartbeats 4000000 in
set_option maxRecDepth 100000 in
theorem c_count (l : Launch) (z : ZZ) (sz : Nat) (g : St) (w9 : Int32) (h7 : bOk (g.2.2.2 7)) : Met l y_U_count (zw y_U_count b_U_count 2 (some .int)) { frames := 1, cells := 0, slots := 0, locals := 20 } (va_Pc [.ref (mA z), .int w9] (zI z g sz)) (va_Qi (fun r g2 => g2 = g ∧ r = cnt w9 g.1.toInt g.2.1 (if bv (g.2.2.2 7) = 0 then 0 else 1)) (zO z sz) (zA z sz)) 0 0 (zA z sz) := by
  refine z_ofW (by decide) (Nat.le_of_ble_eq_true rfl) (fun p e s m below meth c hx hb hr hml hown hts hlocks hname hsz hN ls hU hl => ?_)
  have hl : lv_has ls 2 [(0, .ref (mA z)), (1, .int w9)] := hl
  refine lv_iload_n hx hb d_U_count_0 rfl (lv_at hl 1 rfl) ?_
  rcases sw_3 w9 with w | w | w | w | w
  · refine lv_tableIn hx hb d_U_count_1 (by rw [w]; decide) (by rw [w]; decide) (off := 31) (by rw [w]; rfl) (tgt := 32) (by decide) ?_
    refine lv_aload_n hx hb d_U_count_32 rfl (lv_at hl 0 rfl) ?_
    refine va_get (D := z.1) (ci := 0) (v := .int g.1) (C := R_U) (T := F_U) (N := 11) hx hb hts in_U hown hU.2.1 hU.1 0 rfl rfl 9 (by decide) (hts _ k_U_63) (fun _ h9 => h9) rfl d_U_count_33 ?_
    refine lv_topi (fun x33 ex33 => ?_)
    exact z_iret hx hb hr hlocks hsz hU ⟨rfl, by rw [ex33, w]; exact (Int32.ofInt_toInt _).symm⟩ d_U_count_36
  · refine lv_tableIn hx hb d_U_count_1 (by rw [w]; decide) (by rw [w]; decide) (off := 36) (by rw [w]; rfl) (tgt := 37) (by decide) ?_
    refine lv_aload_n hx hb d_U_count_37 rfl (lv_at hl 0 rfl) ?_
    refine va_get (D := z.1) (ci := 0) (v := .int g.2.1) (C := R_U) (T := F_U) (N := 11) hx hb hts in_U hown hU.2.1 hU.1 0 rfl rfl 10 (by decide) (hts _ k_U_67) (fun _ h9 => h9) rfl d_U_count_38 ?_
    refine lv_topi (fun x38 ex38 => ?_)
    exact z_iret hx hb hr hlocks hsz hU ⟨rfl, by rw [ex38, w]; rfl⟩ d_U_count_41
  · refine lv_tableIn hx hb d_U_count_1 (by rw [w]; decide) (by rw [w]; decide) (off := 41) (by rw [w]; rfl) (tgt := 42) (by decide) ?_
    refine lv_aload_n hx hb d_U_count_42 rfl (lv_at hl 0 rfl) ?_
    refine va_get (D := z.1) (ci := 0) (v := .ref (oA z 7)) (C := R_U) (T := F_U) (N := 11) hx hb hts in_U hown hU.2.1 hU.1 0 rfl rfl 7 (by decide) (hts _ k_U_34) (fun _ h9 => h9) rfl d_U_count_43 ?_
    refine z_calli (z_run (As := []) (rest := []) hx hb hml hown hts hU hN (c_signum l z _ g (i := 7) (by decide) h7) (w_B_signum_cw hts k_U_70 rfl rfl ⟨Nat.le_of_ble_eq_true rfl, Nat.le_of_ble_eq_true rfl⟩) (z_recvB hU (by decide)) rfl hl.1 rfl (lv_room (Nat.le_of_ble_eq_true rfl)) d_U_count_46 ⟨Nat.zero_le _, Nat.zero_le _⟩) hU (fun r46 g46 H locs hp hU => ?_)
    obtain ⟨q1, q2⟩ := hp
    rw [q1] at hU
    refine lv_if_ne (tgt := 56) hx hb d_U_count_49 (by decide) (fun c49 => ?_) (fun c49 => ?_)
    · refine lv_iconst (v := 1) hx hb d_U_count_56 (by decide) ?_
      have q : ¬ bv (g.2.2.2 7) = 0 := fun q => c49 (by rw [q2, bsg, if_pos q])
      exact z_iret hx hb hr hlocks hsz hU ⟨rfl, by rw [w, if_neg q]; rfl⟩ d_U_count_57
    · refine lv_iconst (v := 0) hx hb d_U_count_52 (by decide) ?_
      refine lv_goto (tgt := 57) hx hb d_U_count_53 (by decide) ?_
      have q : bv (g.2.2.2 7) = 0 := by
        have c49 : r46 = 0 := c49
        rw [q2, bsg] at c49
        split at c49
        · assumption
        · split at c49 <;> exact absurd c49 (by decide)
      exact z_iret hx hb hr hlocks hsz hU ⟨rfl, by rw [w, if_pos q]; rfl⟩ d_U_count_57
  · refine lv_tableIn hx hb d_U_count_1 (by rw [w]; decide) (by rw [w]; decide) (off := 57) (by rw [w]; rfl) (tgt := 58) (by decide) ?_
    refine lv_aload_n hx hb d_U_count_58 rfl (lv_at hl 0 rfl) ?_
    refine z_calli (z_run (As := []) (rest := []) hx hb hml hown hts hU hN (c_countUnits l z _ g) (w_U_countUnits_cw hts k_U_73 rfl rfl ⟨Nat.le_of_ble_eq_true rfl, Nat.le_of_ble_eq_true rfl⟩) (z_recvM hU) rfl hl.1 rfl (lv_room (Nat.le_of_ble_eq_true rfl)) d_U_count_59 ⟨Nat.zero_le _, Nat.zero_le _⟩) hU (fun r59 g59 H locs hp hU => ?_)
    obtain ⟨q1, q2⟩ := hp
    rw [q1] at hU
    exact z_iret hx hb hr hlocks hsz hU ⟨rfl, by rw [q2, w]; rfl⟩ d_U_count_62
  · refine lv_tableOut hx hb d_U_count_1 (tgt := 63) w (by decide) ?_
    refine lv_iconst (v := (-1)) hx hb d_U_count_63 (by decide) ?_
    have n0 : ¬ w9 = 0 := fun q => by rw [q] at w; exact absurd w (by decide)
    have n1 : ¬ w9 = 1 := fun q => by rw [q] at w; exact absurd w (by decide)
    have n2 : ¬ w9 = 2 := fun q => by rw [q] at w; exact absurd w (by decide)
    have n3 : ¬ w9 = 3 := fun q => by rw [q] at w; exact absurd w (by decide)
    exact z_iret hx hb hr hlocks hsz hU ⟨rfl, by rw [cnt, if_neg n0, if_neg n1, if_neg n2, if_neg n3]⟩ d_U_count_64
