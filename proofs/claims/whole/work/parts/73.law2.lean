/-! THE LAW: its loop and its start -/
section LawLoop
variable {p : Program} {l : Launch} {e : Env} {s : State} {m : MethodId} {below : List Frame} {meth : Method} {c : Code} {H : Heap} {locs : List Loc} {cells slots : Nat} {ls : Array Slot} {rest : List Value} {sa : Nat → Nat} {z : ZZ} {y : YM} {o : Nat} {cO : ClassId} {g : St} {h : SM} {f : Nat → Int64} {b L : Nat} {xs : Nat → Int32} {d a0 b0 c0 : Int}
set_option maxHeartbeats 4000000 in
set_option maxRecDepth 100000 in
theorem law_head (hlt : l.stackTraces = false) (hx : p.tables.exec = Jvm.exec) (hb : c.code = code) (hml : c.maxLocals = 7) (hown : s.vm.findClass R_L = some m.cls) (hts : ∀ w ∈ zt, w.before #[Value.ref b] s = true) (hX : va_X b L xs s s.heap) (hbl : b < s.heap.size) (hF : lvF sa z y o cO s) (hr : meth.sig.returnType = ret) (hlocks : meth.locks = false) (hL : L ≤ 2048) {k : Nat} (hk : 4 * k ≤ 4096) (hP : lvP z y o cO g h f s H locs) (hl : lv_has ls 7 [(0, .ref b), (1, .ref (mA z)), (2, .ref (oM y)), (3, .ref o), (4, .int (nI (4 * k)))]) (hce : cells ≤ 1057) (hsl : slots ≤ 25517) (kk : 4 * k + 4 ≤ L → W p l e room_1 s m #[Value.ref b] below meth c H locs cells slots (lw_Z below #[Value.ref b] s) (F0 m 32 ls [])) : W p l e room_1 s m #[Value.ref b] below meth c H locs cells slots (lw_Z below #[Value.ref b] s) (F0 m 23 ls []) := by
  refine lv_iload hx hb d_law_23 (lv_at hl 4 rfl) ?_
  refine lv_aload_n hx hb d_law_25 rfl (lv_at hl 0 rfl) ?_
  refine va_slen hx hb hX hbl (Nat.not_le.mpr hbl) hP.2.2 d_law_26 ?_
  refine lv_iconst (v := 4) hx hb d_law_27 (by decide) ?_
  refine lv_isub hx hb d_law_28 ?_
  have t1 : (Int32.ofNat L - 4).toInt = (L : Int) - 4 := by
    have t2 : (Int32.ofNat L).toInt = (L : Int) := nI_toInt (by omega)
    rw [Jvm.Kit.i32_sub] <;> rw [t2, show (4 : Int32).toInt = 4 from rfl] <;> omega
  have t3 : (nI (4 * k)).toInt = ((4 * k : Nat) : Int) := nI_toInt (by omega)
  refine lv_icmp_gt (tgt := 559) hx hb d_law_29 (by decide) (fun _ => ?_) (fun w => kk ?_)
  · refine va_forget (fun q hq => hP.2.2.2.2 q hq) ?_
    refine W.widen (k := 1057) (n := 25517) hce hsl ?_
    refine lv_iconst (v := 1) hx hb d_law_559 (by decide) ?_
    exact lw_ret hx hb hr hlocks d_law_560
  · rw [Int32.lt_iff_toInt_lt, t1, t3] at w
    omega
set_option maxHeartbeats 4000000 in
set_option maxRecDepth 100000 in
theorem law_loop (hlt : l.stackTraces = false) (hx : p.tables.exec = Jvm.exec) (hb : c.code = code) (hml : c.maxLocals = 7) (hown : s.vm.findClass R_L = some m.cls) (hts : ∀ w ∈ zt, w.before #[Value.ref b] s = true) (hX : va_X b L xs s s.heap) (hbl : b < s.heap.size) (hF : lvF sa z y o cO s) (hr : meth.sig.returnType = ret) (hlocks : meth.locks = false) (hL : L ≤ 2048) : ∀ (n k cells slots : Nat) (g : St) (h : SM) (f : Nat → Int64) (d a0 b0 c0 : Int) (H : Heap) (locs : List Loc) (ls : Array Slot), L ≤ 4 * k + 4 * n → 4 * k ≤ 4096 → cells + n ≤ 1057 → slots + 6 * n ≤ 25517 → lvP z y o cO g h f s H locs → cS g d a0 b0 c0 → mS h d a0 b0 c0 → tk d → fO d a0 b0 c0 → lv_has ls 7 [(0, .ref b), (1, .ref (mA z)), (2, .ref (oM y)), (3, .ref o), (4, .int (nI (4 * k)))] → W p l e room_1 s m #[Value.ref b] below meth c H locs cells slots (lw_Z below #[Value.ref b] s) (F0 m 23 ls []) := by
  intro n
  induction n with
  | zero =>
    intro k cells slots g h f d a0 b0 c0 H locs ls q1 q2 q3 q4 hP hc hm hd hfo hl
    exact law_head hlt hx hb hml hown hts hX hbl hF hr hlocks hL q2 hP hl (by omega) (by omega) (fun w => by omega)
  | succ n ih =>
    intro k cells slots g h f d a0 b0 c0 H locs ls q1 q2 q3 q4 hP hc hm hd hfo hl
    refine law_head hlt hx hb hml hown hts hX hbl hF hr hlocks hL q2 hP hl (by omega) (by omega) (fun w => ?_)
    have kk : ∀ (g1 : St) (h1 : SM) (f1 : Nat → Int64) (d1 a1 b1 c1 : Int) (H1 : Heap) (locs1 : List Loc) (ls1 : Array Slot), lvP z y o cO g1 h1 f1 s H1 locs1 → cS g1 d1 a1 b1 c1 → mS h1 d1 a1 b1 c1 → tk d1 → fO d1 a1 b1 c1 → lv_has ls1 7 [(0, .ref b), (1, .ref (mA z)), (2, .ref (oM y)), (3, .ref o), (4, .int (nI (4 * k)))] → W p l e room_1 s m #[Value.ref b] below meth c H1 locs1 (cells + 1) (slots + 6) (lw_Z below #[Value.ref b] s) (F0 m 553 ls1 []) := by
      intro g1 h1 f1 d1 a1 b1 c1 H1 locs1 ls1 r1 r2 r3 r4 r5 hl
      have e4 : nI (4 * k) + Int32.ofInt 4 = nI (4 * (k + 1)) := nI_add (4 * k) 4
      refine lv_iinc (v := nI (4 * (k + 1))) (lv' := [(4, .int (nI (4 * (k + 1)))), (0, .ref b), (1, .ref (mA z)), (2, .ref (oM y)), (3, .ref o)]) hx hb d_law_553 hl (k := 4) rfl e4 (by decide) rfl (fun ls hl => ?_)
      refine lv_goto (tgt := 23) hx hb d_law_556 (by decide) ?_
      exact ih (k + 1) (cells + 1) (slots + 6) g1 h1 f1 d1 a1 b1 c1 H1 locs1 ls (by omega) (by omega) (by omega) (by omega) r1 r2 r3 r4 r5 (lv_sub hl [1, 2, 3, 4, 0] rfl)
    have hin : ∀ j : Int32, 0 ≤ j.toInt → j.toInt ≤ 3 → vp_in (nI (4 * k) + j) L := fun j j1 j2 => by
      have t3 : (nI (4 * k)).toInt = ((4 * k : Nat) : Int) := nI_toInt (by omega)
      have t4 : (nI (4 * k) + j).toInt = ((4 * k : Nat) : Int) + j.toInt := by
        rw [Jvm.Kit.i32_add] <;> rw [t3] <;> omega
      rw [vp_in_iff, t4]
      omega
    have hin0 : vp_in (nI (4 * k)) L := vp_in_nI (by omega) (by omega)
    refine lv_aload_n hx hb d_law_32 rfl (lv_at hl 0 rfl) ?_
    refine lv_iload hx hb d_law_33 (lv_at hl 4 rfl) ?_
    refine va_sld hx hb hX hbl (Nat.not_le.mpr hbl) hP.2.2 hin0 d_law_35 ?_
    refine lv_bipush (v := 7) hx hb d_law_36 (by decide) ?_
    refine lv_iand hx hb d_law_38 ?_
    refine lv_topi (fun x9 ex9 => ?_)
    clear ex9
    rcases sw_7 x9 with w | w | w | w | w | w | w | w | w
    · refine lv_tableIn hx hb d_law_39 (by rw [w]; decide) (by rw [w]; decide) (off := 45) (by rw [w]; rfl) (tgt := 84) (by decide) ?_
      exact lk_take hlt hx hb hml hown hts hX hbl hF hin hP hc hm hd hfo hl (by omega) (by omega) kk
    · refine lv_tableIn hx hb d_law_39 (by rw [w]; decide) (by rw [w]; decide) (off := 101) (by rw [w]; rfl) (tgt := 140) (by decide) ?_
      exact lk_count hlt hx hb hml hown hts hX hbl hF hin hP hc hm hd hfo hl (by omega) (by omega) kk
    · refine lv_tableIn hx hb d_law_39 (by rw [w]; decide) (by rw [w]; decide) (off := 126) (by rw [w]; rfl) (tgt := 165) (by decide) ?_
      exact lk_ask hlt hx hb hml hown hts hX hbl hF hin hP hc hm hd hfo hl (by omega) (by omega) kk
    · refine lv_tableIn hx hb d_law_39 (by rw [w]; decide) (by rw [w]; decide) (off := 186) (by rw [w]; rfl) (tgt := 225) (by decide) ?_
      exact lk_power hlt hx hb hml hown hts hX hbl hF hin hP hc hm hd hfo hl (by omega) (by omega) kk
    · refine lv_tableIn hx hb d_law_39 (by rw [w]; decide) (by rw [w]; decide) (off := 266) (by rw [w]; rfl) (tgt := 305) (by decide) ?_
      exact lk_sign hlt hx hb hml hown hts hX hbl hF hin hP hc hm hd hfo hl (by omega) (by omega) kk
    · refine lv_tableIn hx hb d_law_39 (by rw [w]; decide) (by rw [w]; decide) (off := 322) (by rw [w]; rfl) (tgt := 361) (by decide) ?_
      exact lk_bits hlt hx hb hml hown hts hX hbl hF hin hP hc hm hd hfo hl (by omega) (by omega) kk
    · refine lv_tableIn hx hb d_law_39 (by rw [w]; decide) (by rw [w]; decide) (off := 378) (by rw [w]; rfl) (tgt := 417) (by decide) ?_
      exact lk_word hlt hx hb hml hown hts hX hbl hF hin hP hc hm hd hfo hl (by omega) (by omega) kk
    · refine lv_tableIn hx hb d_law_39 (by rw [w]; decide) (by rw [w]; decide) (off := 446) (by rw [w]; rfl) (tgt := 485) (by decide) ?_
      exact lk_residue hlt hx hb hml hown hts hX hbl hF hin hP hc hm hd hfo hl (by omega) (by omega) kk
    · refine lv_tableOut hx hb d_law_39 (tgt := 553) w (by decide) ?_
      refine W.widen (k := cells + 1) (n := slots + 6) (by omega) (by omega) ?_
      exact kk _ _ _ _ _ _ _ _ _ _ hP hc hm hd hfo hl
end LawLoop
