/-! UnitFinderModel: begin -/
def NTok (D : Nat) : Prop := wkF D (rt D) 999999 (fB D) (fC D) ∧ zT D * zT D + 2 < BB
/-- t, u, the two of -4, the ring's length, of any D, in true numbers -/
def uW (d : Int) : Nat × Nat × Nat × Nat × Nat := if 0 < d then uZ d.toNat else (tB d, uB d, 0, 0, 0)
def mf (d : Int) : Int32 := if 0 < d then (if (wz d.toNat).1 % 2 = 1 then 1 else 0) else 0
/-- the reference's state -/
def mS (g : SM) (d a b c : Int) : Prop := g.2.1.toInt = d ∧ g.2.2.1 = nI (uW d).2.2.2.2 ∧ g.2.2.2.1 = mf d ∧ dgOk g.2.2.2.2.2 ∧ (sv g.2.2.2.2.2 0 = ((uW d).1 : Int) ∧ sv g.2.2.2.2.2 1 = ((uW d).2.1 : Int) ∧ sv g.2.2.2.2.2 6 = ((uW d).2.2.1 : Int) ∧ sv g.2.2.2.2.2 7 = ((uW d).2.2.2.1 : Int)) ∧ sv g.2.2.2.2.2 2 = (((uW d).1 : Int) - b * ((uW d).2.1 : Int)) / 2 ∧ sv g.2.2.2.2.2 3 = -c * ((uW d).2.1 : Int) ∧ sv g.2.2.2.2.2 4 = a * ((uW d).2.1 : Int) ∧ sv g.2.2.2.2.2 5 = (((uW d).1 : Int) + b * ((uW d).2.1 : Int)) / 2
theorem uW_bd {d : Int} (hd : tk d) (hnt : ∀ D, dOk D → NTok D) : (uW d).1 < BB ∧ (uW d).2.1 < BB := by
  have h2 : 4 < BB := by rw [BB_def]; decide +kernel
  unfold uW
  by_cases q : 0 < d
  · rw [if_pos q]
    have hdn : ((d.toNat : Nat) : Int) = d := by omega
    have hdo : dOk d.toNat := tk_dOk (by rw [hdn]; exact hd) (by omega)
    obtain ⟨-, hB⟩ := hnt _ hdo
    have hp := (pre_red hdo).2.2.2.2.1
    have h1 := hdo.2.1
    have hf : 1 ≤ fB d.toNat := by
      generalize fB d.toNat = x at hp
      generalize rt d.toNat = y at hp h1
      omega
    obtain ⟨hLB, hTB, hTL, hTT, hBB, -⟩ := bd_core (f := fB d.toNat) (L := (wz d.toNat).2.1) (b := (wz d.toNat).2.2) hf hB rfl
    unfold uZ
    split
    · exact ⟨hB, hTL⟩
    · exact ⟨hTB, hLB⟩
  · rw [if_neg q]
    refine ⟨Nat.lt_of_le_of_lt ?_ h2, Nat.lt_of_le_of_lt ?_ h2⟩
    · show tB d ≤ 4
      unfold tB
      split
      · decide
      · split <;> decide
    · show uB d ≤ 4
      unfold uB
      split <;> decide
set_option maxHeartbeats 4000000 in
set_option maxRecDepth 100000 in
theorem cm_begin (l : Launch) (z : YM) (sz : Nat) (g : SM) {d : Int} {v : Int64} (hv : v.toInt = d) (hd : tk d) (hnt : ∀ D, dOk D → NTok D) (hok : dgOk g.2.2.2.2.2) : Met l y_M_begin (zw y_M_begin b_M_begin 5 none) { frames := 4, cells := 0, slots := 0, locals := 107 } (va_Pc [.ref (oM z), .long v] (mI z g sz)) (va_Qv (fun g2 => g2.1 = g.1 ∧ mS g2 d 1 (d % 2) ((d % 2 - d) / 4)) (mO z sz) (yA z sz)) 0 0 (yA z sz) := by
  refine m_ofW (by decide) (Nat.le_of_ble_eq_true rfl) (fun p e s m below meth c hx hb hr hml hown hts hlocks hname hsz ls hU hl => ?_)
  have hl : lv_has ls 5 [(0, .ref (oM z)), (1, .long v)] := hl
  have hdl := hd.1
  have hdu := hd.2.1
  have hub := uW_bd hd hnt
  have E : ∀ (g1 : SM) (H : Heap) (locs : List Loc) (ls : Array Slot), g1.1 = g.1 → g1.2.1 = v → g1.2.2.1 = nI (uW d).2.2.2.2 → g1.2.2.2.1 = mf d → dgOk g1.2.2.2.2.2 → sv g1.2.2.2.2.2 0 = ((uW d).1 : Int) → sv g1.2.2.2.2.2 1 = ((uW d).2.1 : Int) → sv g1.2.2.2.2.2 6 = ((uW d).2.2.1 : Int) → sv g1.2.2.2.2.2 7 = ((uW d).2.2.2.1 : Int) → Ms z g1 s.heap H locs s → lv_has ls 5 [(0, .ref (oM z)), (1, .long v)] → W p l e ({ frames := 4, cells := 0, slots := 0, locals := 107 } : Room) s m ([.ref (oM z), .long v] : List Value).toArray below meth c H locs 0 0 (MQ below (va_Qv (fun g2 => g2.1 = g.1 ∧ mS g2 d 1 (d % 2) ((d % 2 - d) / 4)) (mO z sz) (yA z sz)) ([.ref (oM z), .long v] : List Value).toArray s 0 0 (yA z sz)) (F0 m 115 ls []) := by
    intro g1 H locs ls q1 q2 q3 q4 q5 s0 s1 s6 s7 hU hl
    have hdD : g1.2.1.toInt = d := by rw [q2, hv]
    have ET : ∀ (e9 : Int64) (H : Heap) (locs : List Loc) (ls : Array Slot), e9.toInt = d % 2 → Ms z g1 s.heap H locs s → lv_has ls 5 [(0, .ref (oM z)), (1, .long v)] → W p l e ({ frames := 4, cells := 0, slots := 0, locals := 107 } : Room) s m ([.ref (oM z), .long v] : List Value).toArray below meth c H locs 0 0 (MQ below (va_Qv (fun g2 => g2.1 = g.1 ∧ mS g2 d 1 (d % 2) ((d % 2 - d) / 4)) (mO z sz) (yA z sz)) ([.ref (oM z), .long v] : List Value).toArray s 0 0 (yA z sz)) (F0 m 133 ls [.long e9]) := by
      intro e9 H locs ls he hU hl
      refine lv_lstore_n (lv' := [(3, .long e9), (0, .ref (oM z)), (1, .long v)]) hx hb d_M_begin_133 rfl hl (by decide) rfl (fun ls hl => ?_)
      refine lv_aload_n hx hb d_M_begin_134 rfl (lv_at hl 1 rfl) ?_
      refine lv_lconst (v := 1) hx hb d_M_begin_135 (by decide) ?_
      refine lv_lload_n hx hb d_M_begin_136 rfl (lv_at hl 0 rfl) ?_
      refine lv_lload_n hx hb d_M_begin_137 rfl (lv_at hl 0 rfl) ?_
      refine lv_aload_n hx hb d_M_begin_138 rfl (lv_at hl 1 rfl) ?_
      refine va_get (D := z.1) (ci := 3) (v := .long g1.2.1) (C := R_M) (T := F_M) (N := 9) hx hb hts in_M hown hU.2.1 hU.1 0 rfl rfl 1 (by decide) (hts _ k_M_9) (fun _ h9 => h9) rfl d_M_begin_139 ?_
      refine lv_topl (fun x139 ex139 => ?_)
      refine lv_lsub hx hb d_M_begin_142 ?_
      refine lv_topl (fun x142 ex142 => ?_)
      refine lv_ldc2 (v := 4) hx hb hown (hts _ k_M_59) d_M_begin_143 ?_
      have hne146 : ¬ (4 : Int64) = 0 := by decide
      refine lv_ldiv hx hb d_M_begin_146 hne146 ?_
      refine lv_topl (fun x146 ex146 => ?_)
      have t139 : x139.toInt = d := by rw [ex139]; exact hdD
      have t142 : x142.toInt = d % 2 - d := by rw [ex142, Jvm.Kit.i64_sub] <;> rw [he, t139] <;> omega
      have t146 : x146.toInt = (d % 2 - d) / 4 := by
        have h4 : d % 4 = d % 2 := by have := hd.2.2.1; omega
        rw [ex146, Jvm.Kit.i64_div (by rw [t142]; intro q; exact absurd q.2 (by decide)), t142, show (4 : Int64).toInt = 4 from rfl, Int.tdiv_eq_ediv_of_dvd]
        omega
      refine m_callv (m_run (As := [.long 1, .long e9, .long x146]) (rest := []) hx hb hml hown hts hU (cm_turn l z _ g1 hub.1 hub.2 (a := 1) (b := e9) (c9 := x146) (by decide) (by decide) (by omega) (by omega) (by omega) (by omega) q5 s0 s1) (w_M_turn_cw hts k_M_61 rfl rfl ⟨Nat.le_of_ble_eq_true rfl, Nat.le_of_ble_eq_true rfl⟩) (m_recv hU) rfl hl.1 rfl (lv_room (Nat.le_of_ble_eq_true rfl)) d_M_begin_147 ⟨Nat.zero_le _, Nat.zero_le _⟩) hU (fun g147 H locs hp hU => ?_)
      obtain ⟨f, rfl, k1, k2, k3, k4, k5, k6⟩ := hp
      rw [he] at k3 k6
      rw [t146] at k4
      have keep : ∀ i, i < 2 ∨ (5 < i ∧ i < 11) → sv f i = sv g1.2.2.2.2.2 i := fun i hi => sv_eq (dv_congr fun q hq => k2 _ (by omega))
      exact m_vret hx hb hr hlocks hsz hU ⟨q1, hdD, q3, q4, k1, ⟨(keep 0 (by omega)).trans s0, (keep 1 (by omega)).trans s1, (keep 6 (by omega)).trans s6, (keep 7 (by omega)).trans s7⟩, k3, k4, k5, k6⟩ d_M_begin_150
    refine lv_aload_n hx hb d_M_begin_115 rfl (lv_at hl 0 rfl) ?_
    refine va_get (D := z.1) (ci := 3) (v := .long g1.2.1) (C := R_M) (T := F_M) (N := 9) hx hb hts in_M hown hU.2.1 hU.1 0 rfl rfl 1 (by decide) (hts _ k_M_9) (fun _ h9 => h9) rfl d_M_begin_116 ?_
    refine lv_topl (fun x116 ex116 => ?_)
    refine lv_ldc2 (v := 2) hx hb hown (hts _ k_M_54) d_M_begin_119 ?_
    have hne122 : ¬ (2 : Int64) = 0 := by decide
    refine lv_lrem hx hb d_M_begin_122 hne122 ?_
    refine lv_topl (fun x122 ex122 => ?_)
    refine lv_lconst (v := 0) hx hb d_M_begin_123 (by decide) ?_
    refine W.lcmp hx hb d_M_begin_124 ?_
    have t122 : x122.toInt = d.tmod 2 := by rw [ex122, Jvm.Kit.i64_rem, ex116, hdD]; rfl
    refine lv_if_ne (tgt := 132) hx hb d_M_begin_125 (by decide) (fun c125 => ?_) (fun c125 => ?_)
    · have h125 : d % 2 = 1 := by
        have q : ¬ x122 = 0 := fun q => c125 ((lg_cmp_eq _ _).mpr q)
        have q2 : ¬ d.tmod 2 = 0 := fun w => q (Int64.toInt_inj.mp (by rw [t122, w]; rfl))
        have q3 : ¬ d % 2 = 0 := fun w => q2 (Int.tmod_eq_zero_of_dvd (Int.dvd_of_emod_eq_zero w))
        omega
      refine lv_lconst (v := 1) hx hb d_M_begin_132 (by decide) ?_
      exact ET 1 _ _ ls (by rw [h125]; rfl) hU hl
    · have h125 : d % 2 = 0 := by
        have q : x122 = 0 := (lg_cmp_eq _ _).mp c125
        rw [q] at t122
        exact Int.emod_eq_zero_of_dvd (Int.dvd_of_tmod_eq_zero t122.symm)
      refine lv_lconst (v := 0) hx hb d_M_begin_128 (by decide) ?_
      refine lv_goto (tgt := 133) hx hb d_M_begin_129 (by decide) ?_
      exact ET 0 _ _ ls (by rw [h125]; rfl) hU hl
  have hbo12 : (0 : Int32) = 0 ∨ (0 : Int32) = 1 := Or.inl rfl
  refine lv_aload_n hx hb d_M_begin_0 rfl (lv_at hl 0 rfl) ?_
  refine lv_lload_n hx hb d_M_begin_1 rfl (lv_at hl 1 rfl) ?_
  refine mp_D hx hb hts hown hU (hts _ k_M_9) d_M_begin_2 (fun H locs hU => ?_)
  generalize eg2 : mD g v = g2 at hU
  refine lv_aload_n hx hb d_M_begin_5 rfl (lv_at hl 0 rfl) ?_
  refine lv_iconst (v := 0) hx hb d_M_begin_6 (by decide) ?_
  refine mp_R hx hb hts hown hU (hts _ k_M_41) d_M_begin_7 (fun H locs hU => ?_)
  generalize eg7 : mR g2 0 = g7 at hU
  refine lv_aload_n hx hb d_M_begin_10 rfl (lv_at hl 0 rfl) ?_
  refine lv_iconst (v := 0) hx hb d_M_begin_11 (by decide) ?_
  refine mp_N hx hb hts hown hU (hts _ k_M_44) hbo12 d_M_begin_12 (fun H locs hU => ?_)
  generalize eg12 : mN g7 0 = g12 at hU
  refine lv_aload_n hx hb d_M_begin_15 rfl (lv_at hl 0 rfl) ?_
  refine lv_bipush (v := 6) hx hb d_M_begin_16 (by decide) ?_
  refine lv_lconst (v := 0) hx hb d_M_begin_18 (by decide) ?_
  have qf : g12.2.2.2.2.2 = g.2.2.2.2.2 := by rw [← eg12, ← eg7, ← eg2]; rfl
  refine m_callv (m_run (As := [.int 6, .long 0]) (rest := []) hx hb hml hown hts hU (cm_be l z _ g12 (to := 6) (by decide) (w := 0) (by decide) (by rw [qf]; exact hok)) (w_M_be_cw hts k_M_48 rfl rfl ⟨Nat.le_of_ble_eq_true rfl, Nat.le_of_ble_eq_true rfl⟩) (m_recv hU) rfl hl.1 rfl (lv_room (Nat.le_of_ble_eq_true rfl)) d_M_begin_19 ⟨Nat.zero_le _, Nat.zero_le _⟩) hU (fun g19 H locs hp hU => ?_)
  obtain ⟨f1, rfl, k1, k2, k3⟩ := hp
  have hU : Ms z (mF g12 f1) s.heap H locs s := hU
  refine lv_aload_n hx hb d_M_begin_22 rfl (lv_at hl 0 rfl) ?_
  refine lv_bipush (v := 7) hx hb d_M_begin_23 (by decide) ?_
  refine lv_lconst (v := 0) hx hb d_M_begin_25 (by decide) ?_
  refine m_callv (m_run (As := [.int 7, .long 0]) (rest := []) hx hb hml hown hts hU (cm_be l z _ (mF g12 f1) (to := 7) (by decide) (w := 0) (by decide) k1) (w_M_be_cw hts k_M_48 rfl rfl ⟨Nat.le_of_ble_eq_true rfl, Nat.le_of_ble_eq_true rfl⟩) (m_recv hU) rfl hl.1 rfl (lv_room (Nat.le_of_ble_eq_true rfl)) d_M_begin_26 ⟨Nat.zero_le _, Nat.zero_le _⟩) hU (fun g26 H locs hp hU => ?_)
  obtain ⟨f2, rfl, k4, k5, k6⟩ := hp
  have k5 : rsm f1 f2 7 := k5
  have hU : Ms z (mF g12 f2) s.heap H locs s := hU
  have w6 : sv f2 6 = 0 := by rw [k5.sv (by decide)]; exact sv_of_rv k3 HW_pos
  have w7 : sv f2 7 = 0 := sv_of_rv k6 HW_pos
  have qd : g12.2.1 = v := by rw [← eg12, ← eg7, ← eg2]; rfl
  have q1 : g12.1 = g.1 := by rw [← eg12, ← eg7, ← eg2]; rfl
  have qr : g12.2.2.1 = 0 := by rw [← eg12, ← eg7]; rfl
  have qm : g12.2.2.2.1 = 0 := by rw [← eg12]; rfl
  have t30 : ∀ x : Int64, x = (mF g12 f2).2.1 → x.toInt = d := fun x hx => by rw [hx, ← hv, ← qd]; rfl
  refine lv_aload_n hx hb d_M_begin_29 rfl (lv_at hl 0 rfl) ?_
  refine va_get (D := z.1) (ci := 3) (v := .long ((mF g12 f2).2.1)) (C := R_M) (T := F_M) (N := 9) hx hb hts in_M hown hU.2.1 hU.1 0 rfl rfl 1 (by decide) (hts _ k_M_9) (fun _ h9 => h9) rfl d_M_begin_30 ?_
  refine lv_topl (fun x30 ex30 => ?_)
  refine lv_lconst (v := 0) hx hb d_M_begin_33 (by decide) ?_
  refine W.lcmp hx hb d_M_begin_34 ?_
  have u30 := t30 x30 ex30
  refine lv_if_ge (tgt := 111) hx hb d_M_begin_35 (by decide) (fun c35 => ?_) (fun c35 => ?_)
  · have h35 : 0 < d := by
      have q := (lg_cmp_ge _ _).mp c35
      rw [Int64.le_iff_toInt_le, Int64.toInt_zero, u30] at q
      have h0 : d ≠ 0 := fun w => hd.2.2.2 (by rw [w]; rfl)
      omega
    have hdn : ((d.toNat : Nat) : Int) = d := by omega
    have hdo : dOk d.toNat := tk_dOk (by rw [hdn]; exact hd) (by omega)
    obtain ⟨hE, hB⟩ := hnt _ hdo
    refine lv_aload_n hx hb d_M_begin_111 rfl (lv_at hl 0 rfl) ?_
    have hvD : (mF g12 f2).2.1 = lN d.toNat := by
      apply Int64.toInt_inj.mp
      rw [pk_lT (by omega), hdn]
      exact t30 _ rfl
    refine m_callv (m_run (As := []) (rest := []) hx hb hml hown hts hU (cm_find l z _ (mF g12 f2) (D := d.toNat) hdo hE hB hvD qm k4 w6 w7) (w_M_find_cw hts k_M_56 rfl rfl ⟨Nat.le_of_ble_eq_true rfl, Nat.le_of_ble_eq_true rfl⟩) (m_recv hU) rfl hl.1 rfl (lv_room (Nat.le_of_ble_eq_true rfl)) d_M_begin_112 ⟨Nat.zero_le _, Nat.zero_le _⟩) hU (fun g112 H locs hp hU => ?_)
    obtain ⟨p1, p2, p3, p4, p5, p6, p7, p8, p9, p10⟩ := hp
    have eW : uW d = uZ d.toNat := by rw [uW, if_pos h35]
    exact E g112 _ _ ls (p1.trans q1) (p2.trans qd) (by rw [p3, eW]) (by rw [p4, mf, if_pos h35]) p6 (by rw [p7, eW]) (by rw [p8, eW]) (by rw [p9, eW]) (by rw [p10, eW]) hU hl
  · have h35 : d < 0 := by
      have q : ¬ (0 : Int64) ≤ x30 := fun q => c35 ((lg_cmp_ge _ _).mpr q)
      rw [Int64.le_iff_toInt_le, Int64.toInt_zero, u30] at q
      omega
    have h35n : ¬ 0 < d := by omega
    have eW : uW d = (tB d, uB d, 0, 0, 0) := by rw [uW, if_neg h35n]
    have eM : mf d = 0 := by rw [mf, if_neg h35n]
    have E105 : ∀ (w : Nat) (f3 : Nat → Int32) (v9 : Int64) (H : Heap) (locs : List Loc) (ls : Array Slot), w < 3 → w = uB d → v9 = lN w → dgOk f3 → sv f3 0 = (tB d : Int) → sv f3 6 = 0 → sv f3 7 = 0 → Ms z (mF g12 f3) s.heap H locs s → lv_has ls 5 [(0, .ref (oM z)), (1, .long v)] → W p l e ({ frames := 4, cells := 0, slots := 0, locals := 107 } : Room) s m ([.ref (oM z), .long v] : List Value).toArray below meth c H locs 0 0 (MQ below (va_Qv (fun g2 => g2.1 = g.1 ∧ mS g2 d 1 (d % 2) ((d % 2 - d) / 4)) (mO z sz) (yA z sz)) ([.ref (oM z), .long v] : List Value).toArray s 0 0 (yA z sz)) (F0 m 105 ls [.long v9, .int 1, .ref (oM z)]) := by
      intro w f3 v9 H locs ls hw3 hw hv9 r1 r2 r3 r4 hU hl
      subst hv9
      refine m_callv (m_run (As := [.int 1, .long (lN w)]) (rest := []) hx hb hml hown hts hU (cm_be l z _ (mF g12 f3) (to := 1) (by decide) (w := w) (by omega) r1) (w_M_be_cw hts k_M_48 rfl rfl ⟨Nat.le_of_ble_eq_true rfl, Nat.le_of_ble_eq_true rfl⟩) (m_recv hU) rfl hl.1 rfl (lv_room (Nat.le_of_ble_eq_true rfl)) d_M_begin_105 ⟨Nat.zero_le _, Nat.zero_le _⟩) hU (fun g105 H locs hp hU => ?_)
      obtain ⟨f4, rfl, k7, k8, k9⟩ := hp
      have k8 : rsm f3 f4 1 := k8
      have hU : Ms z (mF g12 f4) s.heap H locs s := hU
      refine lv_goto (tgt := 115) hx hb d_M_begin_108 (by decide) ?_
      have h2 : 4 < BB := by rw [BB_def]; decide +kernel
      exact E (mF g12 f4) _ _ ls q1 qd (by rw [eW]; exact qr) (by rw [eM]; exact qm) k7 (by rw [eW]; exact (k8.sv (by decide)).trans r2) (by rw [eW, ← hw]; exact sv_of_rv k9 (lt_HW (Nat.lt_trans (show w < 4 by omega) h2))) (by rw [eW]; exact (k8.sv (by decide)).trans r3) (by rw [eW]; exact (k8.sv (by decide)).trans r4) hU hl
    have E73 : ∀ (w : Nat) (v9 : Int64) (H : Heap) (locs : List Loc) (ls : Array Slot), w < 3 → w = tB d → v9 = lN w → Ms z (mF g12 f2) s.heap H locs s → lv_has ls 5 [(0, .ref (oM z)), (1, .long v)] → W p l e ({ frames := 4, cells := 0, slots := 0, locals := 107 } : Room) s m ([.ref (oM z), .long v] : List Value).toArray below meth c H locs 0 0 (MQ below (va_Qv (fun g2 => g2.1 = g.1 ∧ mS g2 d 1 (d % 2) ((d % 2 - d) / 4)) (mO z sz) (yA z sz)) ([.ref (oM z), .long v] : List Value).toArray s 0 0 (yA z sz)) (F0 m 73 ls [.long v9, .int 0, .ref (oM z)]) := by
      intro w v9 H locs ls hw3 hw hv9 hU hl
      subst hv9
      refine m_callv (m_run (As := [.int 0, .long (lN w)]) (rest := []) hx hb hml hown hts hU (cm_be l z _ (mF g12 f2) (to := 0) (by decide) (w := w) (by omega) k4) (w_M_be_cw hts k_M_48 rfl rfl ⟨Nat.le_of_ble_eq_true rfl, Nat.le_of_ble_eq_true rfl⟩) (m_recv hU) rfl hl.1 rfl (lv_room (Nat.le_of_ble_eq_true rfl)) d_M_begin_73 ⟨Nat.zero_le _, Nat.zero_le _⟩) hU (fun g73 H locs hp hU => ?_)
      obtain ⟨f3, rfl, k7, k8, k9⟩ := hp
      have k8 : rsm f2 f3 0 := k8
      have hU : Ms z (mF g12 f3) s.heap H locs s := hU
      have h2 : 4 < BB := by rw [BB_def]; decide +kernel
      have z0 : sv f3 0 = (tB d : Int) := by rw [← hw]; exact sv_of_rv k9 (lt_HW (Nat.lt_trans (show w < 4 by omega) h2))
      have z6 : sv f3 6 = 0 := by rw [k8.sv (by decide), w6]
      have z7 : sv f3 7 = 0 := by rw [k8.sv (by decide), w7]
      have t30b : ∀ x : Int64, x = (mF g12 f3).2.1 → x.toInt = d := fun x hx => by rw [hx, ← hv, ← qd]; rfl
      refine lv_aload_n hx hb d_M_begin_76 rfl (lv_at hl 0 rfl) ?_
      refine lv_iconst (v := 1) hx hb d_M_begin_77 (by decide) ?_
      refine lv_aload_n hx hb d_M_begin_78 rfl (lv_at hl 0 rfl) ?_
      refine va_get (D := z.1) (ci := 3) (v := .long ((mF g12 f3).2.1)) (C := R_M) (T := F_M) (N := 9) hx hb hts in_M hown hU.2.1 hU.1 0 rfl rfl 1 (by decide) (hts _ k_M_9) (fun _ h9 => h9) rfl d_M_begin_79 ?_
      refine lv_topl (fun x79 ex79 => ?_)
      refine lv_ldc2 (v := (-3)) hx hb hown (hts _ k_M_52) d_M_begin_82 ?_
      refine W.lcmp hx hb d_M_begin_85 ?_
      have u79 := t30b x79 ex79
      refine lv_if_eq (tgt := 100) hx hb d_M_begin_86 (by decide) (fun c86 => ?_) (fun c86 => ?_)
      · have h86 : d = -3 := by
          have q := (lg_cmp_eq _ _).mp c86
          rw [← u79, q]; rfl
        refine lv_lconst (v := 1) hx hb d_M_begin_100 (by decide) ?_
        refine lv_goto (tgt := 105) hx hb d_M_begin_101 (by decide) ?_
        exact E105 1 f3 1 _ _ ls (by decide) (by rw [h86]; rfl) rfl k7 z0 z6 z7 hU hl
      · have h86 : ¬ d = -3 := fun q => c86 ((lg_cmp_eq _ _).mpr (Int64.toInt_inj.mp (by rw [u79, q]; rfl)))
        refine lv_aload_n hx hb d_M_begin_89 rfl (lv_at hl 0 rfl) ?_
        refine va_get (D := z.1) (ci := 3) (v := .long ((mF g12 f3).2.1)) (C := R_M) (T := F_M) (N := 9) hx hb hts in_M hown hU.2.1 hU.1 0 rfl rfl 1 (by decide) (hts _ k_M_9) (fun _ h9 => h9) rfl d_M_begin_90 ?_
        refine lv_topl (fun x90 ex90 => ?_)
        refine lv_ldc2 (v := (-4)) hx hb hown (hts _ k_M_7) d_M_begin_93 ?_
        refine W.lcmp hx hb d_M_begin_96 ?_
        have u90 := t30b x90 ex90
        refine lv_if_ne (tgt := 104) hx hb d_M_begin_97 (by decide) (fun c97 => ?_) (fun c97 => ?_)
        · have h97 : ¬ d = -4 := fun q => c97 ((lg_cmp_eq _ _).mpr (Int64.toInt_inj.mp (by rw [u90, q]; rfl)))
          have h98 : d < -4 := by
            have h4 := hd.2.2.1
            omega
          refine lv_lconst (v := 0) hx hb d_M_begin_104 (by decide) ?_
          exact E105 0 f3 0 _ _ ls (by decide) (by rw [uB, if_pos h98]) rfl k7 z0 z6 z7 hU hl
        · have h97 : d = -4 := by
            have q := (lg_cmp_eq _ _).mp c97
            rw [← u90, q]; rfl
          refine lv_lconst (v := 1) hx hb d_M_begin_100 (by decide) ?_
          refine lv_goto (tgt := 105) hx hb d_M_begin_101 (by decide) ?_
          exact E105 1 f3 1 _ _ ls (by decide) (by rw [h97]; rfl) rfl k7 z0 z6 z7 hU hl
    refine lv_aload_n hx hb d_M_begin_38 rfl (lv_at hl 0 rfl) ?_
    refine lv_iconst (v := 0) hx hb d_M_begin_39 (by decide) ?_
    refine lv_aload_n hx hb d_M_begin_40 rfl (lv_at hl 0 rfl) ?_
    refine va_get (D := z.1) (ci := 3) (v := .long ((mF g12 f2).2.1)) (C := R_M) (T := F_M) (N := 9) hx hb hts in_M hown hU.2.1 hU.1 0 rfl rfl 1 (by decide) (hts _ k_M_9) (fun _ h9 => h9) rfl d_M_begin_41 ?_
    refine lv_topl (fun x41 ex41 => ?_)
    refine lv_ldc2 (v := (-3)) hx hb hown (hts _ k_M_52) d_M_begin_44 ?_
    refine W.lcmp hx hb d_M_begin_47 ?_
    have u41 := t30 x41 ex41
    refine lv_if_ne (tgt := 55) hx hb d_M_begin_48 (by decide) (fun c48 => ?_) (fun c48 => ?_)
    · have h48 : ¬ d = -3 := fun q => c48 ((lg_cmp_eq _ _).mpr (Int64.toInt_inj.mp (by rw [u41, q]; rfl)))
      refine lv_aload_n hx hb d_M_begin_55 rfl (lv_at hl 0 rfl) ?_
      refine va_get (D := z.1) (ci := 3) (v := .long ((mF g12 f2).2.1)) (C := R_M) (T := F_M) (N := 9) hx hb hts in_M hown hU.2.1 hU.1 0 rfl rfl 1 (by decide) (hts _ k_M_9) (fun _ h9 => h9) rfl d_M_begin_56 ?_
      refine lv_topl (fun x56 ex56 => ?_)
      refine lv_ldc2 (v := (-4)) hx hb hown (hts _ k_M_7) d_M_begin_59 ?_
      refine W.lcmp hx hb d_M_begin_62 ?_
      have u56 := t30 x56 ex56
      refine lv_if_ne (tgt := 70) hx hb d_M_begin_63 (by decide) (fun c63 => ?_) (fun c63 => ?_)
      · have h63 : ¬ d = -4 := fun q => c63 ((lg_cmp_eq _ _).mpr (Int64.toInt_inj.mp (by rw [u56, q]; rfl)))
        refine lv_ldc2 (v := 2) hx hb hown (hts _ k_M_54) d_M_begin_70 ?_
        exact E73 2 2 _ _ ls (by decide) (by rw [tB, if_neg h48, if_neg h63]) rfl hU hl
      · have h63 : d = -4 := by
          have q := (lg_cmp_eq _ _).mp c63
          rw [← u56, q]; rfl
        refine lv_lconst (v := 0) hx hb d_M_begin_66 (by decide) ?_
        refine lv_goto (tgt := 73) hx hb d_M_begin_67 (by decide) ?_
        exact E73 0 0 _ _ ls (by decide) (by rw [tB, if_neg h48, if_pos h63]) rfl hU hl
    · have h48 : d = -3 := by
        have q := (lg_cmp_eq _ _).mp c48
        rw [← u41, q]; rfl
      refine lv_lconst (v := 1) hx hb d_M_begin_51 (by decide) ?_
      refine lv_goto (tgt := 73) hx hb d_M_begin_52 (by decide) ?_
      exact E73 1 1 _ _ ls (by decide) (by rw [tB, if_pos h48]) rfl hU hl
