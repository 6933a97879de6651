/-! UnitFinder$Recurrence -/
def recL (g : St) : Nat := (uN (g.2.2.1 0) * bv (g.2.2.2 8) + uN (g.2.2.1 1) * bv (g.2.2.2 9)) % MM
def recB (g : St) : Nat := (uN (g.2.2.1 2) * bv (g.2.2.2 8) + uN (g.2.2.1 3) * bv (g.2.2.2 9)) % MM
def kOk (g : St) : Prop := uN (g.2.2.1 0) < 1073741824 ∧ uN (g.2.2.1 1) < 1073741824 ∧ uN (g.2.2.1 2) < 1073741824 ∧ uN (g.2.2.1 3) < 1073741824
def rOk (g : St) : Prop := bOk (g.2.2.2 8) ∧ bOk (g.2.2.2 9) ∧ (g.2.2.2 8).2.1 = 0 ∧ (g.2.2.2 9).2.1 = 0 ∧ kOk g
/-- nothing has changed but the recurrence -/
def sU (g g2 : St) : Prop := g2.1 = g.1 ∧ g2.2.1 = g.2.1 ∧ ∀ j, j ≠ 8 → j ≠ 9 → g2.2.2.2 j = g.2.2.2 j
theorem sU.rf (g : St) : sU g g := ⟨rfl, rfl, fun _ _ _ => rfl⟩
theorem sU.tr {a b c : St} (h : sU a b) (k : sU b c) : sU a c := ⟨k.1.trans h.1, k.2.1.trans h.2.1, fun j h8 h9 => (k.2.2 j h8 h9).trans (h.2.2 j h8 h9)⟩
def gn (g : St) : St := sK (sK (sK (sK g 0 1) 1 0) 2 0) 3 1
theorem sU_gn (g : St) : sU g (gn g) := ⟨rfl, rfl, fun _ _ _ => rfl⟩
theorem sU_8 (g : St) (b : BS) : sU g (sG g 8 b) := ⟨rfl, rfl, fun _ h _ => sG_n g b h⟩
theorem sU_9 (g : St) (b : BS) : sU g (sG g 9 b) := ⟨rfl, rfl, fun _ _ h => sG_n g b h⟩
theorem sU_K (g : St) (k : Nat) (v : Int64) : sU g (sK g k v) := ⟨rfl, rfl, fun _ _ _ => rfl⟩
theorem gn_k (g : St) : kOk (gn g) := ⟨show uN 1 < 1073741824 by decide, show uN 0 < 1073741824 by decide, show uN 0 < 1073741824 by decide, show uN 1 < 1073741824 by decide⟩
theorem gn_L (g : St) : recL (gn g) = bv (g.2.2.2 8) % MM := by
  show (1 * bv (g.2.2.2 8) + 0 * bv (g.2.2.2 9)) % MM = _
  rw [Nat.one_mul, Nat.zero_mul, Nat.add_zero]
theorem gn_B (g : St) : recB (gn g) = bv (g.2.2.2 9) % MM := by
  show (0 * bv (g.2.2.2 8) + 1 * bv (g.2.2.2 9)) % MM = _
  rw [Nat.one_mul, Nat.zero_mul, Nat.zero_add]
theorem bv_lt {b : BS} (h : bOk b) : bv b < MM := by
  obtain ⟨n, hn, hn1, -, -⟩ := h
  rw [bv_of hn hn1]
  exact vl_ltM _ hn
set_option maxHeartbeats 4000000 in
set_option maxRecDepth 100000 in
theorem c_gather (l : Launch) (z : ZZ) (sz : Nat) (g : St)  : Met l y_K_gatherNothing (zw y_K_gatherNothing b_K_gatherNothing 1 none) { frames := 0, cells := 0, slots := 0, locals := 0 } (va_Pc [.ref (kA z)] (zI z g sz)) (va_Qv (fun g2 => g2 = gn g) (zO z sz) (zA z sz)) 0 0 (zA z sz) := by
  refine z_ofW (by decide) (Nat.le_of_ble_eq_true rfl) (fun p e s m below meth c hx hb hr hml hown hts hlocks hname hsz hN ls hU hl => ?_)
  have hl : lv_has ls 1 [(0, .ref (kA z))] := hl
  refine lv_aload_n hx hb d_K_gatherNothing_0 rfl (lv_at hl 0 rfl) ?_
  refine lv_lconst (v := 1) hx hb d_K_gatherNothing_1 (by decide) ?_
  refine zp_K0 hx hb hts hown hU (hts _ k_K_28) d_K_gatherNothing_2 (fun H locs hU => ?_)
  generalize eg2 : sK g 0 1 = g2 at hU
  refine lv_aload_n hx hb d_K_gatherNothing_5 rfl (lv_at hl 0 rfl) ?_
  refine lv_lconst (v := 0) hx hb d_K_gatherNothing_6 (by decide) ?_
  refine zp_K1 hx hb hts hown hU (hts _ k_K_37) d_K_gatherNothing_7 (fun H locs hU => ?_)
  generalize eg7 : sK g2 1 0 = g7 at hU
  refine lv_aload_n hx hb d_K_gatherNothing_10 rfl (lv_at hl 0 rfl) ?_
  refine lv_lconst (v := 0) hx hb d_K_gatherNothing_11 (by decide) ?_
  refine zp_K2 hx hb hts hown hU (hts _ k_K_32) d_K_gatherNothing_12 (fun H locs hU => ?_)
  generalize eg12 : sK g7 2 0 = g12 at hU
  refine lv_aload_n hx hb d_K_gatherNothing_15 rfl (lv_at hl 0 rfl) ?_
  refine lv_lconst (v := 1) hx hb d_K_gatherNothing_16 (by decide) ?_
  refine zp_K3 hx hb hts hown hU (hts _ k_K_40) d_K_gatherNothing_17 (fun H locs hU => ?_)
  generalize eg17 : sK g12 3 1 = g17 at hU
  exact z_vret hx hb hr hlocks hsz hU (by rw [← eg17, ← eg12, ← eg7, ← eg2]; rfl) d_K_gatherNothing_20
set_option maxHeartbeats 4000000 in
set_option maxRecDepth 100000 in
theorem c_start (l : Launch) (z : ZZ) (sz : Nat) (g : St)  : Met l y_K_start (zw y_K_start b_K_start 1 none) { frames := 2, cells := 0, slots := 0, locals := 44 } (va_Pc [.ref (kA z)] (zI z g sz)) (va_Qv (fun g2 => sU g g2 ∧ rOk g2 ∧ recL g2 = 1 ∧ recB g2 = 0) (zO z sz) (zA z sz)) 0 0 (zA z sz) := by
  refine z_ofW (by decide) (Nat.le_of_ble_eq_true rfl) (fun p e s m below meth c hx hb hr hml hown hts hlocks hname hsz hN ls hU hl => ?_)
  have hl : lv_has ls 1 [(0, .ref (kA z))] := hl
  refine lv_aload_n hx hb d_K_start_0 rfl (lv_at hl 0 rfl) ?_
  refine va_get (D := z.1) (ci := 1) (v := .ref (oA z 8)) (C := R_K) (T := F_K) (N := 6) hx hb hts in_K hown hU.2.1 hU.1 1 rfl rfl 0 (by decide) (hts _ k_K_12) (fun _ h9 => h9) rfl d_K_start_1 ?_
  refine lv_iconst (v := 1) hx hb d_K_start_4 (by decide) ?_
  refine z_callv (z_run (As := [.int 1]) (rest := []) hx hb hml hown hts hU hN (c_set l z _ g (i := 8) (by decide) (v := 1) (by decide)) (w_B_set_cw hts k_K_21 rfl rfl ⟨Nat.le_of_ble_eq_true rfl, Nat.le_of_ble_eq_true rfl⟩) (z_recvB hU (by decide)) rfl hl.1 rfl (lv_room (Nat.le_of_ble_eq_true rfl)) d_K_start_5 ⟨Nat.zero_le _, Nat.zero_le _⟩) hU (fun g5 H locs hp hU => ?_)
  obtain ⟨b8, rfl, h81, h82, h83⟩ := hp
  refine lv_aload_n hx hb d_K_start_8 rfl (lv_at hl 0 rfl) ?_
  refine va_get (D := z.1) (ci := 1) (v := .ref (oA z 9)) (C := R_K) (T := F_K) (N := 6) hx hb hts in_K hown hU.2.1 hU.1 1 rfl rfl 1 (by decide) (hts _ k_K_18) (fun _ h9 => h9) rfl d_K_start_9 ?_
  refine lv_iconst (v := 0) hx hb d_K_start_12 (by decide) ?_
  refine z_callv (z_run (As := [.int 0]) (rest := []) hx hb hml hown hts hU hN (c_set l z _ (sG g 8 b8) (i := 9) (by decide) (v := 0) (by decide)) (w_B_set_cw hts k_K_21 rfl rfl ⟨Nat.le_of_ble_eq_true rfl, Nat.le_of_ble_eq_true rfl⟩) (z_recvB hU (by decide)) rfl hl.1 rfl (lv_room (Nat.le_of_ble_eq_true rfl)) d_K_start_13 ⟨Nat.zero_le _, Nat.zero_le _⟩) hU (fun g13 H locs hp hU => ?_)
  obtain ⟨b9, rfl, h91, h92, h93⟩ := hp
  refine lv_aload_n hx hb d_K_start_16 rfl (lv_at hl 0 rfl) ?_
  refine z_callv (z_run (As := []) (rest := []) hx hb hml hown hts hU hN (c_gather l z _ (sG (sG g 8 b8) 9 b9)) (w_K_gatherNothing_cw hts k_K_25 rfl rfl ⟨Nat.le_of_ble_eq_true rfl, Nat.le_of_ble_eq_true rfl⟩) (z_recvK hU) rfl hl.1 rfl (lv_room (Nat.le_of_ble_eq_true rfl)) d_K_start_17 ⟨Nat.zero_le _, Nat.zero_le _⟩) hU (fun g17 H locs hp hU => ?_)
  subst hp
  have e8 : (gn (sG (sG g 8 b8) 9 b9)).2.2.2 8 = b8 := rfl
  have e9 : (gn (sG (sG g 8 b8) 9 b9)).2.2.2 9 = b9 := rfl
  exact z_vret hx hb hr hlocks hsz hU ⟨((sU_8 g b8).tr (sU_9 _ b9)).tr (sU_gn _), ⟨h81, h91, h82, h92, gn_k _⟩, by
    rw [gn_L]
    show bv b8 % MM = 1
    rw [h83, Nat.mod_eq_of_lt]
    exact Nat.lt_of_lt_of_le (by decide) (MM_le (n := 1) (by decide)), by
    rw [gn_B]
    show bv b9 % MM = 0
    rw [h93, Nat.zero_mod]⟩ d_K_start_20
set_option maxHeartbeats 4000000 in
set_option maxRecDepth 100000 in
theorem c_settle (l : Launch) (z : ZZ) (sz : Nat) (g : St) (hok : rOk g) : Met l y_K_settle (zw y_K_settle b_K_settle 11 none) { frames := 1, cells := 0, slots := 0, locals := 23 } (va_Pc [.ref (kA z)] (zI z g sz)) (va_Qv (fun g2 => sU g g2 ∧ rOk g2 ∧ g2.2.2.1 = (gn g).2.2.1 ∧ bv (g2.2.2.2 8) = recL g ∧ bv (g2.2.2.2 9) = recB g) (zO z sz) (zA z sz)) 0 0 (zA z sz) := by
  refine z_ofW (by decide) (Nat.le_of_ble_eq_true rfl) (fun p e s m below meth c hx hb hr hml hown hts hlocks hname hsz hN ls hU hl => ?_)
  have hl : lv_has ls 11 [(0, .ref (kA z))] := hl
  obtain ⟨⟨n, hn, hn1, hbel, htop⟩, ⟨r, hr0, hr1, hrbel, hrtop⟩, hb8, hb9, hk0, hk1, hk2, hk3⟩ := hok
  have hbv : bv (g.2.2.2 8) = vl (g.2.2.2 8).2.2 n := bv_of hn hn1
  have hbr : bv (g.2.2.2 9) = vl (g.2.2.2 9).2.2 r := bv_of hr0 hr1
  generalize eF : (g.2.2.2 8).2.2 = F at hbv htop
  generalize eG : (g.2.2.2 9).2.2 = G at hbr hrtop
  obtain ⟨M, eM⟩ : ∃ y, y = max n r := ⟨_, rfl⟩
  have hM : M ≤ 512 := by omega
  obtain ⟨p0, ep0⟩ : ∃ y, y = uN (g.2.2.1 0) := ⟨_, rfl⟩
  obtain ⟨p1, ep1⟩ : ∃ y, y = uN (g.2.2.1 1) := ⟨_, rfl⟩
  obtain ⟨p2, ep2⟩ : ∃ y, y = uN (g.2.2.1 2) := ⟨_, rfl⟩
  obtain ⟨p3, ep3⟩ : ∃ y, y = uN (g.2.2.1 3) := ⟨_, rfl⟩
  rw [← ep0] at hk0; rw [← ep1] at hk1; rw [← ep2] at hk2; rw [← ep3] at hk3
  have K : ∀ (d k : Nat) (f h : Nat → Int32) (c1 c2 : Int64) (H : Heap) (locs : List Loc) (ls : Array Slot), k + d = M → vl f k + uN c1 * 4294967296 ^ k = p0 * vl (wd F n) k + p1 * vl (wd G r) k → vl h k + uN c2 * 4294967296 ^ k = p2 * vl (wd F n) k + p3 * vl (wd G r) k → uN c1 < 4294967296 → uN c2 < 4294967296 → (∀ q, k ≤ q → f q = F q) → (∀ q, k ≤ q → h q = G q) → Ws z (sW (sW g 8 f) 9 h) s.heap H locs s → lv_has ls 11 [(0, .ref (kA z)), (1, .int (nI M)), (2, .long c1), (4, .long c2), (6, .int (nI k))] → W p l e ({ frames := 1, cells := 0, slots := 0, locals := 23 } : Room) s m ([.ref (kA z)] : List Value).toArray below meth c H locs 0 0 (MQ below (va_Qv (fun g2 => sU g g2 ∧ rOk g2 ∧ g2.2.2.1 = (gn g).2.2.1 ∧ bv (g2.2.2.2 8) = recL g ∧ bv (g2.2.2.2 9) = recB g) (zO z sz) (zA z sz)) ([.ref (kA z)] : List Value).toArray s 0 0 (zA z sz)) (F0 m 26 ls []) := by
    intro d
    induction d with
    | zero =>
      intro k f h c1 c2 H locs ls hk hI hJ hc1 hc2 hf hh hU hl
      have hk : k = M := by omega
      subst hk
      refine lv_iload hx hb d_K_settle_26 (lv_at hl 4 rfl) ?_
      refine lv_iload_n hx hb d_K_settle_28 rfl (lv_at hl 1 rfl) ?_
      refine lv_icmp_ge (tgt := 145) hx hb d_K_settle_29 (by decide) (fun c29 => ?_) (fun c29 => ?_)
      · refine lv_aload_n hx hb d_K_settle_145 rfl (lv_at hl 0 rfl) ?_
        refine va_get (D := z.1) (ci := 1) (v := .ref (oA z 8)) (C := R_K) (T := F_K) (N := 6) hx hb hts in_K hown hU.2.1 hU.1 1 rfl rfl 0 (by decide) (hts _ k_K_12) (fun _ h9 => h9) rfl d_K_settle_146 ?_
        refine lv_iload_n hx hb d_K_settle_149 rfl (lv_at hl 1 rfl) ?_
        refine lv_lload_n hx hb d_K_settle_150 rfl (lv_at hl 2 rfl) ?_
        have e8 : ((sW (sW g 8 f) 9 h).2.2.2 8) = ((g.2.2.2 8).1, (g.2.2.2 8).2.1, f) := by rw [sW_n _ _ (by decide), sW_s]
        refine z_callv (z_run (As := [.int (nI k), .long c1]) (rest := []) hx hb hml hown hts hU hN (c_close l z _ (sW (sW g 8 f) 9 h) (i := 8) (by decide) (by rw [e8]; exact hbel) hM c1) (w_B_close_cw hts k_K_68 rfl rfl ⟨Nat.le_of_ble_eq_true rfl, Nat.le_of_ble_eq_true rfl⟩) (z_recvB hU (by decide)) rfl hl.1 rfl (lv_room (Nat.le_of_ble_eq_true rfl)) d_K_settle_151 ⟨Nat.zero_le _, Nat.zero_le _⟩) hU (fun g151 H locs hp hU => ?_)
        obtain ⟨b8, rfl, h81, h82, h83⟩ := hp
        rw [e8] at h82 h83
        refine lv_aload_n hx hb d_K_settle_154 rfl (lv_at hl 0 rfl) ?_
        refine va_get (D := z.1) (ci := 1) (v := .ref (oA z 9)) (C := R_K) (T := F_K) (N := 6) hx hb hts in_K hown hU.2.1 hU.1 1 rfl rfl 1 (by decide) (hts _ k_K_18) (fun _ h9 => h9) rfl d_K_settle_155 ?_
        refine lv_iload_n hx hb d_K_settle_158 rfl (lv_at hl 1 rfl) ?_
        refine lv_lload hx hb d_K_settle_159 (lv_at hl 3 rfl) ?_
        have e9 : ((sG (sW (sW g 8 f) 9 h) 8 b8).2.2.2 9) = ((g.2.2.2 9).1, (g.2.2.2 9).2.1, h) := by rw [sG_n _ _ (by decide), sW_s, sW_n _ _ (by decide)]
        refine z_callv (z_run (As := [.int (nI k), .long c2]) (rest := []) hx hb hml hown hts hU hN (c_close l z _ (sG (sW (sW g 8 f) 9 h) 8 b8) (i := 9) (by decide) (by rw [e9]; exact hrbel) hM c2) (w_B_close_cw hts k_K_68 rfl rfl ⟨Nat.le_of_ble_eq_true rfl, Nat.le_of_ble_eq_true rfl⟩) (z_recvB hU (by decide)) rfl hl.1 rfl (lv_room (Nat.le_of_ble_eq_true rfl)) d_K_settle_161 ⟨Nat.zero_le _, Nat.zero_le _⟩) hU (fun g161 H locs hp hU => ?_)
        obtain ⟨b9, rfl, h91, h92, h93⟩ := hp
        rw [e9] at h92 h93
        refine lv_aload_n hx hb d_K_settle_164 rfl (lv_at hl 0 rfl) ?_
        refine z_callv (z_run (As := []) (rest := []) hx hb hml hown hts hU hN (c_gather l z _ (sG (sG (sW (sW g 8 f) 9 h) 8 b8) 9 b9)) (w_K_gatherNothing_cw hts k_K_25 rfl rfl ⟨Nat.le_of_ble_eq_true rfl, Nat.le_of_ble_eq_true rfl⟩) (z_recvK hU) rfl hl.1 rfl (lv_room (Nat.le_of_ble_eq_true rfl)) d_K_settle_165 ⟨Nat.zero_le _, Nat.zero_le _⟩) hU (fun g165 H locs hp hU => ?_)
        subst hp
        have q8 : (gn (sG (sG (sW (sW g 8 f) 9 h) 8 b8) 9 b9)).2.2.2 8 = b8 := rfl
        have q9 : (gn (sG (sG (sW (sW g 8 f) 9 h) 8 b8) 9 b9)).2.2.2 9 = b9 := rfl
        rw [vl_wd (by omega), vl_wd (by omega)] at hI hJ
        exact z_vret hx hb hr hlocks hsz hU ⟨((((sU_8 g _).tr (sU_9 _ _)).tr (sU_8 _ b8)).tr (sU_9 _ b9)).tr (sU_gn _), ⟨h81, h91, h82.trans hb8, h92.trans hb9, gn_k _⟩, by
          funext t
          unfold gn sK
          dsimp only
          split
          · rfl
          split
          · rfl
          split
          · rfl
          split <;> rfl, by
          rw [q8, h83, Nat.mod_eq_of_lt hc1, recL, ← ep0, ← ep1, hbv, hbr]
          exact congrArg (· % MM) hI, by
          rw [q9, h93, Nat.mod_eq_of_lt hc2, recB, ← ep2, ← ep3, hbv, hbr]
          exact congrArg (· % MM) hJ⟩ d_K_settle_168
      · exact absurd (Int32.le_refl _) c29
    | succ d ih =>
      intro k f h c1 c2 H locs ls hk hI hJ hc1 hc2 hf hh hU hl
      have e8 : ((sW (sW g 8 f) 9 h).2.2.2 8) = ((g.2.2.2 8).1, (g.2.2.2 8).2.1, f) := by rw [sW_n _ _ (by decide), sW_s]
      have e9 : ((sW (sW g 8 f) 9 h).2.2.2 9) = ((g.2.2.2 9).1, (g.2.2.2 9).2.1, h) := by rw [sW_s, sW_n _ _ (by decide)]
      refine lv_iload hx hb d_K_settle_26 (lv_at hl 4 rfl) ?_
      refine lv_iload_n hx hb d_K_settle_28 rfl (lv_at hl 1 rfl) ?_
      refine lv_icmp_ge (tgt := 145) hx hb d_K_settle_29 (by decide) (fun c29 => ?_) (fun c29 => ?_)
      · exact absurd c29 (nI_ge (by omega) (by omega))
      · refine lv_aload_n hx hb d_K_settle_32 rfl (lv_at hl 0 rfl) ?_
        refine va_get (D := z.1) (ci := 1) (v := .ref (oA z 8)) (C := R_K) (T := F_K) (N := 6) hx hb hts in_K hown hU.2.1 hU.1 1 rfl rfl 0 (by decide) (hts _ k_K_12) (fun _ h9 => h9) rfl d_K_settle_33 ?_
        refine lv_iload hx hb d_K_settle_36 (lv_at hl 4 rfl) ?_
        refine z_calli (z_run (As := [.int (nI k)]) (rest := []) hx hb hml hown hts hU hN (c_wordAt l z _ (sW (sW g 8 f) 9 h) (i := 8) (by decide) hn (by rw [e8]; exact hn1) (K := k) (by omega)) (w_B_wordAt_cw hts k_K_58 rfl rfl ⟨Nat.le_of_ble_eq_true rfl, Nat.le_of_ble_eq_true rfl⟩) (z_recvB hU (by decide)) rfl hl.1 rfl (lv_room (Nat.le_of_ble_eq_true rfl)) d_K_settle_38 ⟨Nat.zero_le _, Nat.zero_le _⟩) hU (fun r38 g38 H locs hp38 hU => ?_)
        obtain ⟨rfl, q38⟩ := hp38
        refine lv_i2l hx hb d_K_settle_41 rfl ?_
        refine lv_topl (fun x41 ex41 => ?_)
        refine lv_ldc2 (v := 4294967295) hx hb hown (hts _ k_K_62) d_K_settle_42 ?_
        refine lv_land hx hb d_K_settle_45 ?_
        refine lv_topl (fun x45 ex45 => ?_)
        refine lv_lstore (lv' := [(7, .long x45), (0, .ref (kA z)), (1, .int (nI M)), (2, .long c1), (4, .long c2), (6, .int (nI k))]) hx hb d_K_settle_46 hl (by decide) rfl (fun ls hl => ?_)
        refine lv_aload_n hx hb d_K_settle_48 rfl (lv_at hl 1 rfl) ?_
        refine va_get (D := z.1) (ci := 1) (v := .ref (oA z 9)) (C := R_K) (T := F_K) (N := 6) hx hb hts in_K hown hU.2.1 hU.1 1 rfl rfl 1 (by decide) (hts _ k_K_18) (fun _ h9 => h9) rfl d_K_settle_49 ?_
        refine lv_iload hx hb d_K_settle_52 (lv_at hl 5 rfl) ?_
        refine z_calli (z_run (As := [.int (nI k)]) (rest := []) hx hb hml hown hts hU hN (c_wordAt l z _ (sW (sW g 8 f) 9 h) (i := 9) (by decide) hr0 (by rw [e9]; exact hr1) (K := k) (by omega)) (w_B_wordAt_cw hts k_K_58 rfl rfl ⟨Nat.le_of_ble_eq_true rfl, Nat.le_of_ble_eq_true rfl⟩) (z_recvB hU (by decide)) rfl hl.1 rfl (lv_room (Nat.le_of_ble_eq_true rfl)) d_K_settle_54 ⟨Nat.zero_le _, Nat.zero_le _⟩) hU (fun r54 g54 H locs hp54 hU => ?_)
        obtain ⟨rfl, q54⟩ := hp54
        have hin113 : vp_in (nI k) 512 := vp_in_nI (by omega) (by decide)
        have hin126 := hin113
        refine lv_i2l hx hb d_K_settle_57 rfl ?_
        refine lv_topl (fun x57 ex57 => ?_)
        refine lv_ldc2 (v := 4294967295) hx hb hown (hts _ k_K_62) d_K_settle_58 ?_
        refine lv_land hx hb d_K_settle_61 ?_
        refine lv_topl (fun x61 ex61 => ?_)
        refine lv_lstore (lv' := [(9, .long x61), (7, .long x45), (0, .ref (kA z)), (1, .int (nI M)), (2, .long c1), (4, .long c2), (6, .int (nI k))]) hx hb d_K_settle_62 hl (by decide) rfl (fun ls hl => ?_)
        refine lv_lload_n hx hb d_K_settle_64 rfl (lv_at hl 4 rfl) ?_
        refine lv_aload_n hx hb d_K_settle_65 rfl (lv_at hl 2 rfl) ?_
        refine va_get (D := z.1) (ci := 1) (v := .long ((sW (sW g 8 f) 9 h).2.2.1 0)) (C := R_K) (T := F_K) (N := 6) hx hb hts in_K hown hU.2.1 hU.1 1 rfl rfl 2 (by decide) (hts _ k_K_28) (fun _ h9 => h9) rfl d_K_settle_66 ?_
        refine lv_topl (fun x66 ex66 => ?_)
        refine lv_lload hx hb d_K_settle_69 (lv_at hl 1 rfl) ?_
        refine lv_lmul hx hb d_K_settle_71 ?_
        refine lv_topl (fun x71 ex71 => ?_)
        refine lv_aload_n hx hb d_K_settle_72 rfl (lv_at hl 2 rfl) ?_
        refine va_get (D := z.1) (ci := 1) (v := .long ((sW (sW g 8 f) 9 h).2.2.1 1)) (C := R_K) (T := F_K) (N := 6) hx hb hts in_K hown hU.2.1 hU.1 1 rfl rfl 3 (by decide) (hts _ k_K_37) (fun _ h9 => h9) rfl d_K_settle_73 ?_
        refine lv_topl (fun x73 ex73 => ?_)
        refine lv_lload hx hb d_K_settle_76 (lv_at hl 0 rfl) ?_
        refine lv_lmul hx hb d_K_settle_78 ?_
        refine lv_topl (fun x78 ex78 => ?_)
        refine lv_ladd hx hb d_K_settle_79 ?_
        refine lv_topl (fun x79 ex79 => ?_)
        refine lv_ladd hx hb d_K_settle_80 ?_
        refine lv_topl (fun x80 ex80 => ?_)
        refine lv_lstore_n (lv' := [(2, .long x80), (9, .long x61), (7, .long x45), (0, .ref (kA z)), (1, .int (nI M)), (4, .long c2), (6, .int (nI k))]) hx hb d_K_settle_81 rfl hl (by decide) rfl (fun ls hl => ?_)
        refine lv_lload hx hb d_K_settle_82 (lv_at hl 5 rfl) ?_
        refine lv_aload_n hx hb d_K_settle_84 rfl (lv_at hl 3 rfl) ?_
        refine va_get (D := z.1) (ci := 1) (v := .long ((sW (sW g 8 f) 9 h).2.2.1 2)) (C := R_K) (T := F_K) (N := 6) hx hb hts in_K hown hU.2.1 hU.1 1 rfl rfl 4 (by decide) (hts _ k_K_32) (fun _ h9 => h9) rfl d_K_settle_85 ?_
        refine lv_topl (fun x85 ex85 => ?_)
        refine lv_lload hx hb d_K_settle_88 (lv_at hl 2 rfl) ?_
        refine lv_lmul hx hb d_K_settle_90 ?_
        refine lv_topl (fun x90 ex90 => ?_)
        refine lv_aload_n hx hb d_K_settle_91 rfl (lv_at hl 3 rfl) ?_
        refine va_get (D := z.1) (ci := 1) (v := .long ((sW (sW g 8 f) 9 h).2.2.1 3)) (C := R_K) (T := F_K) (N := 6) hx hb hts in_K hown hU.2.1 hU.1 1 rfl rfl 5 (by decide) (hts _ k_K_40) (fun _ h9 => h9) rfl d_K_settle_92 ?_
        refine lv_topl (fun x92 ex92 => ?_)
        refine lv_lload hx hb d_K_settle_95 (lv_at hl 1 rfl) ?_
        refine lv_lmul hx hb d_K_settle_97 ?_
        refine lv_topl (fun x97 ex97 => ?_)
        refine lv_ladd hx hb d_K_settle_98 ?_
        refine lv_topl (fun x98 ex98 => ?_)
        refine lv_ladd hx hb d_K_settle_99 ?_
        refine lv_topl (fun x99 ex99 => ?_)
        refine lv_lstore (lv' := [(4, .long x99), (2, .long x80), (9, .long x61), (7, .long x45), (0, .ref (kA z)), (1, .int (nI M)), (6, .int (nI k))]) hx hb d_K_settle_100 hl (by decide) rfl (fun ls hl => ?_)
        refine lv_aload_n hx hb d_K_settle_102 rfl (lv_at hl 4 rfl) ?_
        refine va_get (D := z.1) (ci := 1) (v := .ref (oA z 8)) (C := R_K) (T := F_K) (N := 6) hx hb hts in_K hown hU.2.1 hU.1 1 rfl rfl 0 (by decide) (hts _ k_K_12) (fun _ h9 => h9) rfl d_K_settle_103 ?_
        refine va_getN (D := z.1) (ci := 2) (v := .ref (rA z 8)) (C := R_B) (T := F_B) (N := 3) hx hb hts in_B hown hU.2.1 hU.1 (2 + 2 * 8) (uw_o z (sW (sW g 8 f) 9 h) (by decide)) rfl 0 (by decide) (va_Nw.use rfl hN.1) (fun _ h9 => h9) rfl d_K_settle_106 ?_
        refine lv_iload hx hb d_K_settle_109 (lv_at hl 6 rfl) ?_
        refine lv_lload_n hx hb d_K_settle_111 rfl (lv_at hl 1 rfl) ?_
        refine lv_l2i hx hb d_K_settle_112 rfl ?_
        refine lv_topi (fun x112 ex112 => ?_)
        refine z_iast hx hb hU (by decide) hin113 d_K_settle_113 (fun H locs hU => ?_)
        generalize eg113 : sW (sW (sW g 8 f) 9 h) 8 (upd ((sW (sW g 8 f) 9 h).2.2.2 8).2.2 (nI k).toNatClampNeg x112) = g113 at hU
        refine lv_aload_n hx hb d_K_settle_114 rfl (lv_at hl 4 rfl) ?_
        refine va_get (D := z.1) (ci := 1) (v := .ref (oA z 9)) (C := R_K) (T := F_K) (N := 6) hx hb hts in_K hown hU.2.1 hU.1 1 rfl rfl 1 (by decide) (hts _ k_K_18) (fun _ h9 => h9) rfl d_K_settle_115 ?_
        refine va_getN (D := z.1) (ci := 2) (v := .ref (rA z 9)) (C := R_B) (T := F_B) (N := 3) hx hb hts in_B hown hU.2.1 hU.1 (2 + 2 * 9) (uw_o z g113 (by decide)) rfl 0 (by decide) (va_Nw.use rfl hN.1) (fun _ h9 => h9) rfl d_K_settle_118 ?_
        refine lv_iload hx hb d_K_settle_121 (lv_at hl 6 rfl) ?_
        refine lv_lload hx hb d_K_settle_123 (lv_at hl 0 rfl) ?_
        refine lv_l2i hx hb d_K_settle_125 rfl ?_
        refine lv_topi (fun x125 ex125 => ?_)
        refine z_iast hx hb hU (by decide) hin126 d_K_settle_126 (fun H locs hU => ?_)
        generalize eg126 : sW g113 9 (upd (g113.2.2.2 9).2.2 (nI k).toNatClampNeg x125) = g126 at hU
        refine lv_lload_n hx hb d_K_settle_127 rfl (lv_at hl 1 rfl) ?_
        refine lv_bipush (v := 32) hx hb d_K_settle_128 (by decide) ?_
        refine lv_lushr hx hb d_K_settle_130 rfl ?_
        refine lv_topl (fun x130 ex130 => ?_)
        refine lv_lstore_n (lv' := [(2, .long x130), (4, .long x99), (9, .long x61), (7, .long x45), (0, .ref (kA z)), (1, .int (nI M)), (6, .int (nI k))]) hx hb d_K_settle_131 rfl hl (by decide) rfl (fun ls hl => ?_)
        refine lv_lload hx hb d_K_settle_132 (lv_at hl 1 rfl) ?_
        refine lv_bipush (v := 32) hx hb d_K_settle_134 (by decide) ?_
        refine lv_lushr hx hb d_K_settle_136 rfl ?_
        refine lv_topl (fun x136 ex136 => ?_)
        refine lv_lstore (lv' := [(4, .long x136), (2, .long x130), (9, .long x61), (7, .long x45), (0, .ref (kA z)), (1, .int (nI M)), (6, .int (nI k))]) hx hb d_K_settle_137 hl (by decide) rfl (fun ls hl => ?_)
        obtain ⟨x139, ex139⟩ : ∃ y : Int32, y = (nI k) + Int32.ofInt 1 := ⟨_, rfl⟩
        refine lv_iinc (v := x139) (lv' := [(6, .int x139), (4, .long x136), (2, .long x130), (9, .long x61), (7, .long x45), (0, .ref (kA z)), (1, .int (nI M))]) hx hb d_K_settle_139 hl (k := 6) rfl (by rw [ex139]) (by decide) rfl (fun ls hl => ?_)
        refine lv_goto (tgt := 26) hx hb d_K_settle_142 (by decide) ?_
        have a1 : r38 = wd F n k := by
          rw [q38, e8]
          show wd f n k = wd F n k
          unfold wd
          rw [hf k (Nat.le_refl k)]
        have a2 : r54 = wd G r k := by
          rw [q54, e9]
          show wd h r k = wd G r k
          unfold wd
          rw [hh k (Nat.le_refl k)]
        have u45 : uN x45 = wn (wd F n k) := by rw [ex45, ex41, a1]; exact uN_w _
        have u61 : uN x61 = wn (wd G r k) := by rw [ex61, ex57, a2]; exact uN_w _
        have w1 := wn_lt (wd F n k)
        have w2 := wn_lt (wd G r k)
        obtain ⟨a, ea⟩ : ∃ y, y = wn (wd F n k) := ⟨_, rfl⟩
        obtain ⟨b, eb⟩ : ∃ y, y = wn (wd G r k) := ⟨_, rfl⟩
        rw [← ea] at u45 w1
        rw [← eb] at u61 w2
        have v66 : uN x66 = p0 := by rw [ex66, ep0]; rfl
        have v73 : uN x73 = p1 := by rw [ex73, ep1]; rfl
        have v85 : uN x85 = p2 := by rw [ex85, ep2]; rfl
        have v92 : uN x92 = p3 := by rw [ex92, ep3]; rfl
        have b0 : p0 * a ≤ 1073741823 * 4294967295 := Nat.mul_le_mul (by omega) (by omega)
        have b1 : p1 * b ≤ 1073741823 * 4294967295 := Nat.mul_le_mul (by omega) (by omega)
        have b2 : p2 * a ≤ 1073741823 * 4294967295 := Nat.mul_le_mul (by omega) (by omega)
        have b3 : p3 * b ≤ 1073741823 * 4294967295 := Nat.mul_le_mul (by omega) (by omega)
        have u71 : uN x71 = p0 * a := by rw [ex71, uN_mul', v66, u45]; rw [v66, u45]; omega
        have u78 : uN x78 = p1 * b := by rw [ex78, uN_mul', v73, u61]; rw [v73, u61]; omega
        have u79 : uN x79 = p0 * a + p1 * b := by rw [ex79, uN_add', u71, u78]; rw [u71, u78]; omega
        have u80 : uN x80 = uN c1 + (p0 * a + p1 * b) := by rw [ex80, uN_add', u79]; rw [u79]; omega
        have u90 : uN x90 = p2 * a := by rw [ex90, uN_mul', v85, u45]; rw [v85, u45]; omega
        have u97 : uN x97 = p3 * b := by rw [ex97, uN_mul', v92, u61]; rw [v92, u61]; omega
        have u98 : uN x98 = p2 * a + p3 * b := by rw [ex98, uN_add', u90, u97]; rw [u90, u97]; omega
        have u99 : uN x99 = uN c2 + (p2 * a + p3 * b) := by rw [ex99, uN_add', u98]; rw [u98]; omega
        have u130 : uN x130 = uN x80 / 4294967296 := by rw [ex130]; exact uN_s32 _
        have u136 : uN x136 = uN x99 / 4294967296 := by rw [ex136]; exact uN_s32 _
        rw [← eg126, ← eg113, sW_8, sW_n _ _ (show (9 : Nat) ≠ 8 by decide), e8, e9, nI_clamp (by omega)] at hU
        rw [ex139, show Int32.ofInt 1 = 1 from rfl, nI_1] at hl
        exact ih (k + 1) _ _ x130 x136 _ _ ls (by omega) (by
          rw [vl_upds, ex112, wn_l2i, u130, Nat.pow_succ, vl_s, vl_s, ← ea, ← eb]
          exact vl_stepL (uN x80) hI u80) (by
          rw [vl_upds, ex125, wn_l2i, u136, Nat.pow_succ, vl_s, vl_s, ← ea, ← eb]
          exact vl_stepL (uN x99) hJ u99) (by rw [u130]; omega) (by rw [u136]; omega) (fun q hq => by rw [pk_un (by omega)]; exact hf q (by omega)) (fun q hq => by rw [pk_un (by omega)]; exact hh q (by omega)) hU (lv_sub hl [5, 6, 2, 1, 0] rfl)
  refine lv_aload_n hx hb d_K_settle_0 rfl (lv_at hl 0 rfl) ?_
  refine va_get (D := z.1) (ci := 1) (v := .ref (oA z 8)) (C := R_K) (T := F_K) (N := 6) hx hb hts in_K hown hU.2.1 hU.1 1 rfl rfl 0 (by decide) (hts _ k_K_12) (fun _ h9 => h9) rfl d_K_settle_1 ?_
  refine va_getN (D := z.1) (ci := 2) (v := .int ((g.2.2.2 8).1)) (C := R_B) (T := F_B) (N := 3) hx hb hts in_B hown hU.2.1 hU.1 (2 + 2 * 8) (uw_o z g (by decide)) rfl 1 (by decide) (va_Nw.use rfl hN.2.1) (fun _ h9 => h9) rfl d_K_settle_4 ?_
  refine lv_topi (fun x4 ex4 => ?_)
  refine lv_aload_n hx hb d_K_settle_7 rfl (lv_at hl 0 rfl) ?_
  refine va_get (D := z.1) (ci := 1) (v := .ref (oA z 9)) (C := R_K) (T := F_K) (N := 6) hx hb hts in_K hown hU.2.1 hU.1 1 rfl rfl 1 (by decide) (hts _ k_K_18) (fun _ h9 => h9) rfl d_K_settle_8 ?_
  refine va_getN (D := z.1) (ci := 2) (v := .int ((g.2.2.2 9).1)) (C := R_B) (T := F_B) (N := 3) hx hb hts in_B hown hU.2.1 hU.1 (2 + 2 * 9) (uw_o z g (by decide)) rfl 1 (by decide) (va_Nw.use rfl hN.2.1) (fun _ h9 => h9) rfl d_K_settle_11 ?_
  refine lv_topi (fun x11 ex11 => ?_)
  refine va_mmax hx hb (hml.trans hl.1.symm) hown (hts _ k_K_52) (hts _ q_max_st) (hts _ q_math) (hts _ q_max_co) (Nat.le_of_ble_eq_true rfl) (Nat.le_of_ble_eq_true rfl) (Nat.zero_le _) (Nat.zero_le _) d_K_settle_14 ?_
  refine lv_topi (fun x14 ex14 => ?_)
  refine lv_istore_n (lv' := [(1, .int x14), (0, .ref (kA z))]) hx hb d_K_settle_17 rfl hl (by decide) rfl (fun ls hl => ?_)
  refine lv_lconst (v := 0) hx hb d_K_settle_18 (by decide) ?_
  refine lv_lstore_n (lv' := [(2, .long 0), (1, .int x14), (0, .ref (kA z))]) hx hb d_K_settle_19 rfl hl (by decide) rfl (fun ls hl => ?_)
  refine lv_lconst (v := 0) hx hb d_K_settle_20 (by decide) ?_
  refine lv_lstore (lv' := [(4, .long 0), (2, .long 0), (1, .int x14), (0, .ref (kA z))]) hx hb d_K_settle_21 hl (by decide) rfl (fun ls hl => ?_)
  refine lv_iconst (v := 0) hx hb d_K_settle_23 (by decide) ?_
  refine lv_istore (lv' := [(6, .int 0), (4, .long 0), (2, .long 0), (1, .int x14), (0, .ref (kA z))]) hx hb d_K_settle_24 hl (by decide) rfl (fun ls hl => ?_)
  have e14 : x14 = nI M := by
    rw [ex14, ex4, ex11, hn1, hr1, eM]
    exact max_nI (by omega) (by omega)
  rw [e14] at hl
  exact K M 0 F G 0 0 _ _ ls (Nat.zero_add M) rfl rfl (by decide) (by decide) (fun _ _ => rfl) (fun _ _ => rfl) (by rw [← eF, sW_self, ← eG, sW_self]; exact hU) (lv_sub hl [4, 3, 2, 1, 0] rfl)
