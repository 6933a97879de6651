/-! THE LAW: from its entry -/
theorem inj_of {A : Nat → Prop} {z : ZZ} {y : YM} {o : Nat} {cO : ClassId} {g : St} {h : SM} {f : Nat → Int64} (hD : va_D A ((uw z g ++ mw y h) ++ ow o cO f)) : zInj z o ∧ yInj z y o ∧ (∀ i, i < 22 → A (z.2.1 i)) ∧ A o ∧ ∀ k, k < 2 → A (y.2.1 k) := by
  have at1 : ∀ i, i < 22 → ∃ e : va_E, ((uw z g ++ mw y h) ++ ow o cO f)[i]? = some (z.2.1 i, e) := fun i hi => by
    obtain ⟨e, he⟩ := uw_at z g i hi
    refine ⟨e, ?_⟩
    rw [List.getElem?_append_left (show i < (uw z g ++ mw y h).length from Nat.lt_of_lt_of_le hi (by rw [List.length_append]; exact Nat.le_add_right 22 _)), List.getElem?_append_left (show i < (uw z g).length from hi)]
    exact he
  have at2 : ∀ k, k < 2 → ∃ e : va_E, ((uw z g ++ mw y h) ++ ow o cO f)[22 + k]? = some (y.2.1 k, e) := fun k hk => by
    rcases (show k = 0 ∨ k = 1 by omega) with w | w <;> subst w
    · exact ⟨_, rfl⟩
    · exact ⟨_, rfl⟩
  have at3 : ∃ e : va_E, ((uw z g ++ mw y h) ++ ow o cO f)[24]? = some (o, e) := ⟨_, rfl⟩
  refine ⟨⟨fun i j hi hj e => ?_, fun i hi e => ?_⟩, ⟨fun e => ?_, fun k hk e => ?_, fun i k hi hk e => ?_⟩, fun i hi => ?_, ?_, fun k hk => ?_⟩
  · obtain ⟨_, e1⟩ := at1 i hi
    obtain ⟨_, e2⟩ := at1 j hj
    exact hD.1 i j _ _ e1 e2 e
  · obtain ⟨_, e1⟩ := at1 i hi
    obtain ⟨_, e2⟩ := at3
    have := hD.1 i 24 _ _ e1 e2 e
    omega
  · obtain ⟨_, e1⟩ := at2 0 (by decide)
    obtain ⟨_, e2⟩ := at2 1 (by decide)
    have := hD.1 _ _ _ _ e1 e2 e
    omega
  · obtain ⟨_, e1⟩ := at2 k hk
    obtain ⟨_, e2⟩ := at3
    have := hD.1 _ _ _ _ e1 e2 e
    omega
  · obtain ⟨_, e1⟩ := at1 i hi
    obtain ⟨_, e2⟩ := at2 k hk
    have := hD.1 _ _ _ _ e1 e2 e
    omega
  · obtain ⟨_, e1⟩ := at1 i hi
    exact hD.2 _ _ e1
  · obtain ⟨_, e1⟩ := at3
    exact hD.2 _ _ e1
  · obtain ⟨_, e1⟩ := at2 k hk
    exact hD.2 _ _ e1
theorem str_a {s : State} {A : Array Value} {own tx : String} {k : Nat} {cur : ClassId} (hown : s.vm.findClass own = some cur) (h : (Cond.stringRef own k tx).before A s = true) : ∃ a, vk_R own k tx a s := by
  obtain ⟨-, -, -, a, -, -, -, -, -, hev⟩ := Cond.stringRef_spec hown h
  exact ⟨a, vk_R.of h hev⟩
theorem tb_raw {w : Cond} (i : Nat) (h : tables_1[i]? = some w) : w ∈ lw_tbl := List.mem_append_right _ (List.mem_of_getElem? h)
theorem xB_in : ∀ w ∈ xB, w ∈ lw_tbl := by
  have h : ∀ w ∈ xB, w ∈ tables_1 := by decide +kernel
  exact fun w hw => List.mem_append_right _ (h w hw)
theorem uIn_blind {D : va_G} {w : va_W} {sz : Nat} {vs : List Value} : FrameBlind (va_Pc vs (fun U => nIn D w sz U ∧ zN U)) := fun a U g mk q => by
  obtain ⟨q0, ⟨q1, qP, qK, qD⟩, q2⟩ := q
  exact ⟨q0, ⟨q1, qP, va_K.moved (u := U) (U := U.calling g mk a) (Vm.Alike.refl U.vm) qK, qD⟩, zN.same rfl q2⟩
theorem k_L_8c : Cond.classLink R_L 8 R_U ∈ zt := tb_at 13 (by decide +kernel)
theorem k_L_39c : Cond.classLink R_L 39 R_M ∈ zt := tb_at 405 (by decide +kernel)
theorem q_arrJ : Cond.arrayClass .long ∈ zt := tb_at 565 (by decide +kernel)
theorem i_U9 : Cond.instantiable R_U 11 ∈ zt := by decide +kernel
theorem i_K9 : Cond.instantiable R_K 6 ∈ zt := by decide +kernel
theorem i_B9 : Cond.instantiable R_B 3 ∈ zt := by decide +kernel
theorem i_M9 : Cond.instantiable R_M 9 ∈ zt := by decide +kernel
theorem fO_m4 : fO (-4) 1 0 1 := ⟨⟨⟨by decide, by decide⟩, ⟨by decide, by decide⟩, ⟨by decide, by decide⟩⟩, by decide⟩
/-- what the start gives of the tables -/
theorem law_env {p : Program} {s : State} {m : MethodId} {meth : Method} {c : Code} {b L : Nat} {xs : Nat → Int32} (C0 : lw_At p s m meth c b L xs) : (∃ D : va_G, va_K D vwCl [] s) ∧ zN s ∧ (∃ sa, xN sa s) ∧ xH (aL s) s s.heap ∧ va_Nc E_A E_I s := by
  obtain ⟨hx, hb, hr, hml, hown, hts, hX, hbl, hlocks, hgv⟩ := C0
  have hz : ∀ w ∈ zt, w.before #[Value.ref b] s = true := fun w hw => hts w (List.mem_filter.mp hw).1
  have hfl := flat_of_before _ hgv
  obtain ⟨c0, iS0, hKn0⟩ := u_known (C := R_U) (T := F_U) (N := 11) (n := 11) hz in_U (hz _ i_U9)
  obtain ⟨c1, iS1, hKn1⟩ := u_known (C := R_K) (T := F_K) (N := 6) (n := 6) hz in_K (hz _ i_K9)
  obtain ⟨c2, iS2, hKn2⟩ := u_known (C := R_B) (T := F_B) (N := 3) (n := 3) hz in_B (hz _ i_B9)
  obtain ⟨c3, iS3, hKn3⟩ := u_known (C := R_M) (T := F_M) (N := 9) (n := 9) hz in_M (hz _ i_M9)
  refine ⟨⟨(fun k => if k = 0 then c0 else if k = 1 then c1 else if k = 2 then c2 else c3, fun k => if k = 0 then iS0 else if k = 1 then iS1 else if k = 2 then iS2 else iS3), fun k q hq => ?_, fun k q h => by simp at h⟩, ⟨va_Nw.of rfl (hts _ (tb_raw 28 (by decide +kernel))), va_Nw.of rfl (hts _ (tb_raw 30 (by decide +kernel))), va_Nw.of rfl (hts _ (tb_raw 49 (by decide +kernel))), va_Nw.of rfl (hts _ (tb_raw 51 (by decide +kernel)))⟩, ?_, ⟨?_, ?_⟩, ?_⟩
  · match k, hq with
    | 0, hq => cases hq; exact hKn0
    | 1, hq => cases hq; exact hKn1
    | 2, hq => cases hq; exact hKn2
    | 3, hq => cases hq; exact hKn3
    | k + 4, hq => simp [vwCl] at hq
  · have hU := hKn0.2.1
    obtain ⟨a0, r0⟩ := str_a hU (hts (.stringRef R_U 54 "D can't be taken") (tb_raw 283 (by decide +kernel)))
    obtain ⟨a1, r1⟩ := str_a hU (hts (.stringRef R_U 79 "a coefficient is too large") (tb_raw 330 (by decide +kernel)))
    obtain ⟨a2, r2⟩ := str_a hU (hts (.stringRef R_U 83 "not a form of discriminant D") (tb_raw 332 (by decide +kernel)))
    obtain ⟨a3, r3⟩ := str_a hU (hts (.stringRef R_U 89 "not a primitive form") (tb_raw 336 (by decide +kernel)))
    obtain ⟨a4, r4⟩ := str_a hU (hts (.stringRef R_U 95 "no such power") (tb_raw 344 (by decide +kernel)))
    obtain ⟨a5, r5⟩ := str_a hU (hts (.stringRef R_U 115 "no such word") (tb_raw 395 (by decide +kernel)))
    obtain ⟨a6, r6⟩ := str_a hU (hts (.stringRef R_U 122 "m is below 1") (tb_raw 404 (by decide +kernel)))
    obtain ⟨a7, r7⟩ := str_a hU (hts (.stringRef R_U 124 "no such number") (tb_raw 374 (by decide +kernel)))
    exact ⟨fun k => if k = 0 then a0 else if k = 1 then a1 else if k = 2 then a2 else if k = 3 then a3 else if k = 4 then a4 else if k = 5 then a5 else if k = 6 then a6 else a7, fun w hw => va_tabs (xB_t w hw) rfl (hts w (xB_in w hw)), r0, r1, r2, r3, r4, r5, r6, r7⟩
  · exact vx_Zqof (hts _ (tb_raw 270 (by decide +kernel))) (hts (.initialized Bundle.tN) (List.mem_append_right _ (by decide +kernel))) (hfl _ (by decide +kernel)) (fun a h => Nat.not_le.mpr h)
  · exact vx_Zqof (hts _ (tb_raw 272 (by decide +kernel))) (hts (.initialized Bundle.tN) (List.mem_append_right _ (by decide +kernel))) (hfl _ (by decide +kernel)) (fun a h => Nat.not_le.mpr h)
  · exact va_Nc.of (hfl (.not (.castable E_A E_I)) (by decide +kernel))
set_option maxHeartbeats 4000000 in
set_option maxRecDepth 100000 in
theorem whole_start {p : Program} {e : Env} {s : State} {m : MethodId} {below : List Frame} {meth : Method} {c : Code} (l : Launch) (hlt : l.stackTraces = false) {b L : Nat} {xs : Nat → Int32} (hL : L ≤ 2048) (C0 : lw_At p s m meth c b L xs) : W p l e room_1 s m #[Value.ref b] below meth c s.heap [] 0 0 (lw_Z below #[Value.ref b] s) (entryFrame m ([Value.ref b] : List Value).toArray 7) := by
  obtain ⟨⟨D, hK⟩, hN, ⟨sa, hX9⟩, hH9, hC9⟩ := law_env C0
  obtain ⟨hx, hb, hr, hml, hown, hts0, hX, hbl, hlocks, hgv⟩ := C0
  have hown : s.vm.findClass R_L = some m.cls := hown
  have hts : ∀ w ∈ zt, w.before #[Value.ref b] s = true := fun w hw => hts0 w (List.mem_filter.mp hw).1
  have hA : ∀ q : Nat, s.heap.size ≤ q → aL s q := fun _ h => h
  have hS : va_S (aL s) s.heap s.heap [] := va_S.rf
  have hP : va_P D vwCl [] s.heap := fun k q h => by simp at h
  have hD : va_D (aL s) [] := ⟨fun i j p q h => by simp at h, fun k q h => by simp at h⟩
  have hl := lv_entry ([.ref b]) (n := 7) (Nat.le_of_ble_eq_true rfl)
  rw [lg_entry_eq]
  generalize (lg_sl ([.ref b]) ++ List.replicate (7 - (lg_sl ([.ref b])).length) Slot.unset).toArray = ls at hl ⊢
  have hl : lv_has ls 7 [(0, .ref b)] := hl
  refine va_new (ci := 0) (fs := [.null, .null, .null, .null, .null, .null, .null, .null, .null, .int 0, .int 0]) (C := R_U) (T := F_U) (N := 11) hx hb hts in_U t_U t_U_ok hown (hts _ k_L_8c) (hts _ i_U9) (hts _ q_in_U) hK hP hD hS hA rfl (fun j hj => by rcases (show j = 0 ∨ j = 1 ∨ j = 2 ∨ j = 3 ∨ j = 4 ∨ j = 5 ∨ j = 6 ∨ j = 7 ∨ j = 8 ∨ j = 9 ∨ j = 10 by omega) with rfl | rfl | rfl | rfl | rfl | rfl | rfl | rfl | rfl | rfl | rfl <;> rfl) (Nat.le_of_ble_eq_true rfl) (Nat.le_of_ble_eq_true rfl) d_law_0 (fun q0 H hP hD hS => ?_)
  have hP : va_P D vwCl (unN q0) H := hP
  have hD : va_D (aL s) (unN q0) := hD
  refine W.widen (k := 1) (n := 11) (by omega) (by omega) ?_
  refine lv_dup hx hb d_law_3 rfl ?_
  have hFc := va_free (wc := unN q0) hD hS hA [0] rfl
  refine va_callv (va_runI (As := []) (rest := [.ref q0]) ⟨hx, hb, hml, hown, hts⟩ (c_Uinit l D q0 H.size) (cwI 0 hts (zgood w_U_init_co) rfl rfl rfl (hts _ q_in_U) (hts _ k_L_38) (hts _ w_U_init_im) rfl (by decide +kernel) ⟨Nat.le_of_ble_eq_true rfl, Nat.le_of_ble_eq_true rfl⟩) ⟨uIn_blind, fun U hU hW => ⟨rfl, ⟨by rw [hU], by rw [hU]; exact hP, va_K.moved hW.alike hK, hD.weaken (fun _ _ _ _ => trivial)⟩, hN.warm hW⟩⟩ rfl rfl hl.1 rfl (lv_room (Nat.le_of_ble_eq_true rfl)) d_law_4 ⟨Nat.le_of_ble_eq_true rfl, Nat.le_of_ble_eq_true rfl⟩) hS (fun q _ h => hFc q h) hFc (fun u t H1 locs ht hvm hw hB hz1 hk1 hS1 => ?_)
  obtain ⟨z, g⟩ := u
  obtain ⟨hP1, hKz, hD1⟩ := hB
  rw [ht] at hP1
  have hKz := va_K.moved hvm.symm hKz
  obtain ⟨w1, w2, hcS⟩ := hw
  have w1 : z.1 = D := w1
  have w2 : mA z = q0 := w2
  have hcS : cS g (-4) 1 0 1 := hcS
  have hP1 : va_P z.1 vwCl (uw z g) H1 := hP1
  have hKz : va_K z.1 vwCl (zty z) s := hKz
  have hDz : va_D (aL s) (uw z g) := (show va_D _ (uw z g) from hD1).weaken (fun _ q _ h => hFc q.1 h)
  subst w1
  subst w2
  clear hP hD hk1 hFc hS
  refine W.widen (k := 22) (n := 5167) (by omega) (by omega) ?_
  refine lv_astore_n (lv' := [(1, .ref (mA z)), (0, .ref b)]) hx hb d_law_7 rfl hl (by decide) rfl (fun ls hl => ?_)
  refine va_new (ci := 3) (fs := [.int 0, .long 0, .int 0, .int 0, .null, .long 0, .long 0, .long 0, .long 0]) (C := R_M) (T := F_M) (N := 9) hx hb hts in_M t_M t_M_ok hown (hts _ k_L_39c) (hts _ i_M9) (hts _ q_in_M) hKz hP1 hDz hS1 hA rfl (fun j hj => by rcases (show j = 0 ∨ j = 1 ∨ j = 2 ∨ j = 3 ∨ j = 4 ∨ j = 5 ∨ j = 6 ∨ j = 7 ∨ j = 8 by omega) with rfl | rfl | rfl | rfl | rfl | rfl | rfl | rfl | rfl <;> rfl) (Nat.le_of_ble_eq_true rfl) (Nat.le_of_ble_eq_true rfl) d_law_8 (fun q1 H hP hD hS => ?_)
  have hP : va_P z.1 vwCl (uw z g ++ nM q1) H := hP
  have hD : va_D (aL s) (uw z g ++ nM q1) := hD
  clear hP1 hD1 hS1
  refine W.widen (k := 23) (n := 5176) (by omega) (by omega) ?_
  refine lv_dup hx hb d_law_11 rfl ?_
  have hFc := va_free (wc := nM q1) hD hS hA [22] rfl
  refine va_callv (va_runI (As := []) (rest := [.ref q1]) ⟨hx, hb, hml, hown, hts⟩ (c_Minit l z.1 q1 H.size nt_all) (cwI 0 hts (zgood w_M_init_co) rfl rfl rfl (hts _ q_in_M) (hts _ k_L_41) (hts _ w_M_init_im) rfl (by decide +kernel) ⟨Nat.le_of_ble_eq_true rfl, Nat.le_of_ble_eq_true rfl⟩) ⟨nIn_blind, fun U hU hW => ⟨rfl, by rw [hU], by rw [hU]; exact va_suf hP, va_K.moved hW.alike hK, (va_sufD hD).weaken (fun _ _ _ _ => trivial)⟩⟩ rfl rfl hl.1 rfl (lv_room (Nat.le_of_ble_eq_true rfl)) d_law_12 ⟨Nat.le_of_ble_eq_true rfl, Nat.le_of_ble_eq_true rfl⟩) hS (fun q _ h => hFc q h) hFc (fun u t H1 locs ht hvm hw hB hz1 hk1 hS1 => ?_)
  obtain ⟨y, h⟩ := u
  obtain ⟨hP1, hKy, hD1⟩ := hB
  rw [ht] at hP1
  have hKy := va_K.moved hvm.symm hKy
  obtain ⟨w1, w2, w3, hmS⟩ := hw
  have w1 : y.1 = z.1 := w1
  have w2 : oM y = q1 := w2
  have hmS : mS h (-4) 1 0 1 := hmS
  have hKy : va_K y.1 vwCl (mty y) s := hKy
  have hP1 : va_P z.1 vwCl (mw y h) H1 := by rw [← w1]; exact hP1
  have hD1 : va_D (va_A (nM q1) H.size) (mw y h) := hD1
  obtain ⟨hP2, hD2⟩ := va_join (wc := nM q1) (wr := uw z g) (w1 := mw y h) hP hD [22] [0, 1, 2, 3, 4, 5, 6, 7, 8, 9, 10, 11, 12, 13, 14, 15, 16, 17, 18, 19, 20, 21] rfl rfl (by decide) (by decide) hk1 hFc hP1 hD1
  subst w2
  clear hP hD hk1 hFc hS hP1 hD1
  refine W.widen (k := 24) (n := 17276) (by omega) (by omega) ?_
  refine lv_astore_n (lv' := [(2, .ref (oM y)), (1, .ref (mA z)), (0, .ref b)]) hx hb d_law_15 rfl hl (by decide) rfl (fun ls hl => ?_)
  refine lv_iconst (v := 1) hx hb d_law_16 (by decide) ?_
  refine va_newa (atype := .long) (ty := .long) (a0 := (1, .inr (.inl (fun _ => (0 : Int64))))) hx hb (hts _ q_arrJ) rfl hKz hP2 hD2 hS1 hA (fun _ => rfl) (by decide) (N' := 1) rfl (by decide) (Nat.le_of_ble_eq_true rfl) (Nat.le_of_ble_eq_true rfl) d_law_17 (fun o cO H hKz hP hD hS => ?_)
  have hP : va_P z.1 vwCl ((uw z g ++ mw y h) ++ ow o cO (fun _ => 0)) H := hP
  have hD : va_D (aL s) ((uw z g ++ mw y h) ++ ow o cO (fun _ => 0)) := hD
  clear hP2 hD2 hS1
  refine W.widen (k := 25) (n := 17277) (by omega) (by omega) ?_
  refine lv_astore_n (lv' := [(3, .ref o), (2, .ref (oM y)), (1, .ref (mA z)), (0, .ref b)]) hx hb d_law_19 rfl hl (by decide) rfl (fun ls hl => ?_)
  refine lv_iconst (v := nI (4 * 0)) hx hb d_law_20 (by decide) ?_
  refine lv_istore (lv' := [(4, .int (nI (4 * 0))), (3, .ref o), (2, .ref (oM y)), (1, .ref (mA z)), (0, .ref b)]) hx hb d_law_21 hl (by decide) rfl (fun ls hl => ?_)
  obtain ⟨j1, j2, j3, j4, j5⟩ := inj_of hD
  have hF : lvF sa z y o cO s := ⟨j1, j2, j3, j4, j5, hKz, hKy, hN, hX9, hH9, hC9⟩
  have hPa : va_P z.1 vwCl (uw z g ++ mw y h) H := va_pre hP
  have hLP : lvP z y o cO g h (fun _ => 0) s H locs := ⟨va_P.app (va_pre hPa) (va_suf hP), by rw [w1]; exact va_suf hPa, hS⟩
  exact law_loop hlt hx hb hml hown hts hX hbl hF hr hlocks hL 512 0 25 17277 g h (fun _ => 0) (-4) 1 0 1 H locs ls (by omega) (by decide) (by decide) (by decide) hLP hcS hmS tk_m4 fO_m4 (lv_sub hl [4, 3, 2, 1, 0] rfl)
