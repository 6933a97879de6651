/-! UnitFinderModel: the walk along the ring -/
/-- the walk in true numbers -/
def wkZ (D r : Nat) : Nat → Nat → Nat → Nat → Nat → Nat → Nat × Nat × Nat
  | 0, _, _, k, L, B => (k, L, B)
  | f + 1, b, c, k, L, B => if c ≤ 1 then (k, L, B) else wkZ D r f (nxB r b c) (nxC D r b c) (k + 1) ((b + r) / (2 * c) * L + B) L
/-- the walk ends within so many steps -/
def wkF (D r : Nat) : Nat → Nat → Nat → Prop
  | 0, _, c => c ≤ 1
  | f + 1, b, c => c ≤ 1 ∨ wkF D r f (nxB r b c) (nxC D r b c)
def wz (D : Nat) : Nat × Nat × Nat := wkZ D (rt D) 999999 (fB D) (fC D) 1 1 0
def zT (D : Nat) : Nat := fB D * (wz D).2.1 + 2 * (wz D).2.2
def uZ (D : Nat) : Nat × Nat × Nat × Nat × Nat := if (wz D).1 % 2 = 1 then (zT D * zT D + 2, zT D * (wz D).2.1, zT D, (wz D).2.1, 2 * (wz D).1) else (zT D, (wz D).2.1, 0, 0, (wz D).1)
theorem wkZ_ge {D r : Nat} (h0 : r * r < D) (h3 : D < (r + 1) * (r + 1)) : ∀ (f A b c k L B : Nat), Red D r A b c → L ≤ (wkZ D r f b c k L B).2.1 := by
  intro f
  induction f with
  | zero => intro A b c k L B _; exact Nat.le_refl _
  | succ f ih =>
    intro A b c k L B hR
    rw [wkZ]
    split
    · exact Nat.le_refl _
    · have h1 := ih c _ _ (k + 1) ((b + r) / (2 * c) * L + B) L (hR.next h0 h3)
      have h2 : 1 * L ≤ (b + r) / (2 * c) * L := Nat.mul_le_mul_right _ (nx_q hR.2.2.1 hR.2.2.2.2.2)
      omega
theorem wkZ_le (D r : Nat) : ∀ (f b c k L B : Nat), (wkZ D r f b c k L B).1 ≤ k + f := by
  intro f
  induction f with
  | zero => intro b c k L B; exact Nat.le_refl _
  | succ f ih =>
    intro b c k L B
    rw [wkZ]
    split
    · exact Nat.le_add_right _ _
    · have := ih (nxB r b c) (nxC D r b c) (k + 1) ((b + r) / (2 * c) * L + B) L
      omega
theorem rv_of_sv {f : Nat → Int32} {i n : Nat} (hi : i < 11) (hok : dgOk f) (h : sv f i = (n : Int)) : rv f i = n := by
  have hl : (rv f i : Int) < (WW : Int) := Int.ofNat_lt.mpr (rv_lt hi hok)
  unfold sv at h
  split at h
  · exact Int.ofNat.inj h
  · generalize (WW : Int) = Q at hl h
    omega
theorem sv_of_rv {f : Nat → Int32} {i n : Nat} (h : rv f i = n) (hn : n < HW) : sv f i = (n : Int) := by
  unfold sv
  rw [h, if_pos hn]
theorem lt_HW {n : Nat} (h : n < BB) : n < HW := by
  have := BB_HW
  generalize BB = X at h this
  generalize HW = Y at this
  omega
theorem nn_HW (n : Nat) : -(HW : Int) ≤ (n : Int) := by
  have h1 : (0 : Int) ≤ (HW : Int) := Int.natCast_nonneg _
  have h2 : (0 : Int) ≤ (n : Int) := Int.natCast_nonneg _
  generalize (HW : Int) = Y at h1 ⊢
  omega
/-- the ring's first form, one step earlier -/
theorem pre_red {D : Nat} (h : dOk D) : Red D (rt D) (fC D) (fB D) 1 := by
  obtain ⟨b1, b2, b3, b4, b5, b6⟩ := first_red h
  obtain ⟨a1, a2, a3, a4, a5, a6⟩ := h
  have hb2 : rt D ≤ fB D + 1 := by unfold fB; split <;> omega
  refine ⟨b1, b3, Nat.le_refl 1, by rw [Nat.mul_comm (fC D)]; exact b4, by omega, by omega⟩
theorem pre_B {D : Nat} (h : dOk D) : nxB (rt D) (fB D) 1 = fB D := by
  obtain ⟨a1, a2, a3, a4, a5, a6⟩ := h
  have hb : fB D ≤ rt D := Nat.sub_le _ _
  have hb2 : rt D ≤ fB D + 1 := by unfold fB; split <;> omega
  unfold nxB
  omega
theorem pre_C {D : Nat} (h : dOk D) : nxC D (rt D) (fB D) 1 = fC D := by
  unfold nxC
  rw [pre_B h]
  rfl
/-- where c is 1, b is the first one -/
theorem red_one {D A b : Nat} (hd : dOk D) (h : Red D (rt D) A b 1) : b = fB D := by
  obtain ⟨h1, h2, h3, h4, h5, h6⟩ := h
  have hm : b % 2 = D % 2 := by
    have h7 := sq_mod4 b
    have := hd.2.2.2.2.2
    omega
  unfold fB
  split <;> omega
theorem lN_ne0 {n : Nat} (h : 0 < n) (h2 : n < 2 ^ 63) : ¬ lN n = 0 := fun q => by
  rw [show (0 : Int64) = lN 0 from rfl, pk_lEQ h2 (by decide)] at q
  omega
theorem rt_sqr {D : Nat} (h : dOk D) : sqr D = rt D := by
  obtain ⟨a1, a2, a3, a4, a5, a6⟩ := h
  obtain ⟨s1, s2⟩ := sqr_spec (V := D) (by omega)
  exact sq_uniq s1 s2 (by omega) a5
theorem bd_core {T L X f b : Nat} (hf : 1 ≤ f) (hB : T * T + 2 < X) (hT : T = f * L + 2 * b) : L < X ∧ T < X ∧ T * L < X ∧ T * T < X ∧ b < X ∧ 2 < X := by
  have h1 : 1 * L ≤ f * L := Nat.mul_le_mul_right _ hf
  have h2 : T ≤ T * T := Nat.le_mul_self _
  have h3 : T * L ≤ T * T := Nat.mul_le_mul_left _ (by omega)
  refine ⟨by omega, by omega, by omega, by omega, by omega, by omega⟩
theorem lt_WW {n : Nat} (h : n < BB) : n < WW := by
  have h1 := lt_HW h
  have h2 := HW_2
  generalize HW = Y at h1 h2
  generalize WW = Q at h2 ⊢
  omega
/-- what the walk leaves in the object -/
def mZ (g g2 : SM) (D : Nat) : Prop := g2.1 = g.1 ∧ g2.2.1 = g.2.1 ∧ g2.2.2.1 = nI (uZ D).2.2.2.2 ∧ g2.2.2.2.1 = (if (wz D).1 % 2 = 1 then 1 else 0) ∧ g2.2.2.2.2.1 = g.2.2.2.2.1 ∧ dgOk g2.2.2.2.2.2 ∧ sv g2.2.2.2.2.2 0 = ((uZ D).1 : Int) ∧ sv g2.2.2.2.2.2 1 = ((uZ D).2.1 : Int) ∧ sv g2.2.2.2.2.2 6 = ((uZ D).2.2.1 : Int) ∧ sv g2.2.2.2.2.2 7 = ((uZ D).2.2.2.1 : Int)
set_option maxHeartbeats 4000000 in
set_option maxRecDepth 100000 in
theorem cm_find (l : Launch) (z : YM) (sz : Nat) (g : SM) {D : Nat} (hd : dOk D) (hE : wkF D (rt D) 999999 (fB D) (fC D)) (hB : zT D * zT D + 2 < BB) (hdd : g.2.1 = lN D) (hmn : g.2.2.2.1 = 0) (hok : dgOk g.2.2.2.2.2) (h60 : sv g.2.2.2.2.2 6 = 0) (h70 : sv g.2.2.2.2.2 7 = 0) : Met l y_M_find (zw y_M_find b_M_find 13 none) { frames := 3, cells := 0, slots := 0, locals := 75 } (va_Pc [.ref (oM z)] (mI z g sz)) (va_Qv (fun g2 => mZ g g2 D) (mO z sz) (yA z sz)) 0 0 (yA z sz) := by
  refine m_ofW (by decide) (Nat.le_of_ble_eq_true rfl) (fun p e s m below meth c hx hb hr hml hown hts hlocks hname hsz ls hU hl => ?_)
  have hl : lv_has ls 13 [(0, .ref (oM z))] := hl
  have hred := first_red hd
  have hpre := pre_red hd
  have hpB := pre_B hd
  have hpC := pre_C hd
  have hsq := rt_sqr hd
  have hone := fun A b => red_one (D := D) (A := A) (b := b) hd
  obtain ⟨a1, a2, a3, a4, a5, a6⟩ := id hd
  obtain ⟨F, eF⟩ : ∃ y, y = g.2.2.2.2.2 := ⟨_, rfl⟩
  obtain ⟨r, er⟩ : ∃ y, y = rt D := ⟨_, rfl⟩
  obtain ⟨b0, eb0⟩ : ∃ y, y = fB D := ⟨_, rfl⟩
  obtain ⟨c00, ec0⟩ : ∃ y, y = fC D := ⟨_, rfl⟩
  rw [← er, ← eb0, ← ec0] at hred hpre
  rw [← er, ← eb0] at hpB
  rw [← er, ← eb0, ← ec0] at hpC
  rw [← er, ← eb0, ← ec0] at hE
  rw [← er] at a2 a3 a4 a5 hsq
  have hone : ∀ A b, Red D r A b 1 → b = b0 := fun A b h => by rw [eb0]; exact hone A b (by rw [← er]; exact h)
  have ewz : wz D = wkZ D r 999999 b0 c00 1 1 0 := by rw [wz, ← er, ← eb0, ← ec0]
  have hb9 := hred.1
  have hb1 : 1 ≤ b0 := by have := hpre.2.2.2.2.1; omega
  obtain ⟨hLB, hTB, hTL, hTT, hBB, h2B⟩ := bd_core (f := fB D) (L := (wz D).2.1) (b := (wz D).2.2) (by rw [← eb0]; exact hb1) hB rfl
  have X : ∀ (k L B : Nat) (f : Nat → Int32) (x5 x7 x11 : Int64) (x10 : Int32) (H : Heap) (locs : List Loc) (ls : Array Slot), wz D = (k, L, B) → k ≤ 1000000 → dgOk f → sv f 8 = (L : Int) → sv f 9 = (B : Int) → (∀ q, (q < 8800 ∨ 12100 ≤ q) → f q = F q) → Ms z (mF g f) s.heap H locs s → lv_has ls 13 [(0, .ref (oM z)), (1, .long (lN r)), (3, .long (lN b0)), (5, .long x5), (7, .long x7), (9, .int (nI k)), (10, .int x10)] → W p l e ({ frames := 3, cells := 0, slots := 0, locals := 75 } : Room) s m ([.ref (oM z)] : List Value).toArray below meth c H locs 0 0 (MQ below (va_Qv (fun g2 => mZ g g2 D) (mO z sz) (yA z sz)) ([.ref (oM z)] : List Value).toArray s 0 0 (yA z sz)) (F0 m 158 ls []) := by
    intro k L B f x5 x7 x11 x10 H locs ls hw hk h1 h8 h9 hs hU hl
    have eL : L = (wz D).2.1 := by rw [hw]
    have eB : B = (wz D).2.2 := by rw [hw]
    have ek : k = (wz D).1 := by rw [hw]
    have eT : zT D = b0 * L + 2 * B := by rw [zT, ← eb0, ← eL, ← eB]
    refine lv_aload_n hx hb d_M_find_158 rfl (lv_at hl 0 rfl) ?_
    refine lv_iconst (v := 0) hx hb d_M_find_159 (by decide) ?_
    refine lv_ldc2 (v := 2) hx hb hown (hts _ k_M_54) d_M_find_160 ?_
    refine lv_bipush (v := 9) hx hb d_M_find_163 (by decide) ?_
    refine lv_lload_n hx hb d_M_find_165 rfl (lv_at hl 2 rfl) ?_
    refine lv_bipush (v := 8) hx hb d_M_find_166 (by decide) ?_
    have tb0 : (lN b0).toInt = (b0 : Int) := pk_lT (by omega)
    refine m_callv (m_run (As := [.int 0, .long 2, .int 9, .long (lN b0), .int 8]) (rest := []) hx hb hml hown hts hU (cm_combine l z _ (mF g f) (to := 0) (i := 9) (j := 8) (by decide) (by decide) (by decide) (x := 2) (y := lN b0) (by decide) (by decide) (by rw [tb0]; omega) (by rw [tb0]; omega) h1) (w_M_combine_cw hts k_M_69 rfl rfl ⟨Nat.le_of_ble_eq_true rfl, Nat.le_of_ble_eq_true rfl⟩) (m_recv hU) rfl hl.1 rfl (lv_room (Nat.le_of_ble_eq_true rfl)) d_M_find_168 ⟨Nat.zero_le _, Nat.zero_le _⟩) hU (fun g168 H locs hp hU => ?_)
    obtain ⟨f1, rfl, k1, k2, k3⟩ := hp
    have k2 : rsm f f1 0 := k2
    have k3 : (rv f1 0 : Int) = ((2 : Int64).toInt * (rv f 9 : Int) + (lN b0).toInt * (rv f 8 : Int)) % (WW : Int) := k3
    have eS : (2 : Int64).toInt * sv f 9 + (lN b0).toInt * sv f 8 = ((zT D : Nat) : Int) := by
      rw [h8, h9, tb0, eT, show (2 : Int64).toInt = 2 from rfl, Int.natCast_add, Int.natCast_mul, Int.natCast_mul]
      omega
    have s0 := sv_comb k3 (by rw [eS]; exact nn_HW _) (by rw [eS]; exact Int.ofNat_lt.mpr (lt_HW hTB))
    rw [eS] at s0
    have hU : Ms z (mF g f1) s.heap H locs s := hU
    refine lv_aload_n hx hb d_M_find_171 rfl (lv_at hl 0 rfl) ?_
    refine lv_iconst (v := 1) hx hb d_M_find_172 (by decide) ?_
    refine lv_bipush (v := 8) hx hb d_M_find_173 (by decide) ?_
    refine m_callv (m_run (As := [.int 1, .int 8]) (rest := []) hx hb hml hown hts hU (cm_copy l z _ (mF g f1) (to := 1) (fr := 8) (by decide) (by decide) (by decide) k1) (w_M_copy_cw hts k_M_73 rfl rfl ⟨Nat.le_of_ble_eq_true rfl, Nat.le_of_ble_eq_true rfl⟩) (m_recv hU) rfl hl.1 rfl (lv_room (Nat.le_of_ble_eq_true rfl)) d_M_find_175 ⟨Nat.zero_le _, Nat.zero_le _⟩) hU (fun g175 H locs hp hU => ?_)
    obtain ⟨f2, rfl, k4, k5, k6⟩ := hp
    have k5 : rsm f1 f2 1 := k5
    have s1 : sv f2 1 = ((wz D).2.1 : Int) := by rw [sv_eq (f2 := f1) (j := 8) k6, k2.sv (by decide), h8, eL]
    have s02 : sv f2 0 = ((zT D : Nat) : Int) := by rw [k5.sv (by decide), s0]
    have v6 : sv f2 6 = 0 := by
      rw [k5.sv (by decide), k2.sv (by decide), ← h60, ← eF]
      exact sv_eq (dv_congr fun q hq => hs _ (by omega))
    have v7 : sv f2 7 = 0 := by
      rw [k5.sv (by decide), k2.sv (by decide), ← h70, ← eF]
      exact sv_eq (dv_congr fun q hq => hs _ (by omega))
    have hU : Ms z (mF g f2) s.heap H locs s := hU
    refine lv_aload_n hx hb d_M_find_178 rfl (lv_at hl 0 rfl) ?_
    refine lv_iload hx hb d_M_find_179 (lv_at hl 5 rfl) ?_
    refine mp_R hx hb hts hown hU (hts _ k_M_41) d_M_find_181 (fun H locs hU => ?_)
    generalize eg181 : mR (mF g f2) (nI k) = g181 at hU
    refine lv_iload hx hb d_M_find_184 (lv_at hl 5 rfl) ?_
    refine lv_iconst (v := 2) hx hb d_M_find_186 (by decide) ?_
    have hne187 : ¬ (2 : Int32) = 0 := by decide
    refine lv_irem hx hb d_M_find_187 hne187 ?_
    refine lv_topi (fun x187 ex187 => ?_)
    have e187 : x187 = nI (k % 2) := by rw [ex187]; exact pk_rem (a := k) (d := 2) (by omega) (by decide) (by decide)
    refine lv_if_ne (tgt := 192) hx hb d_M_find_188 (by decide) (fun c188 => ?_) (fun c188 => ?_)
    · have h188 : k % 2 = 1 := by
        apply Classical.byContradiction
        intro q
        exact c188 (by rw [e187, show k % 2 = 0 by omega]; rfl)
      have hod : (wz D).1 % 2 = 1 := by rw [← ek]; exact h188
      have hbo202 : (1 : Int32) = 0 ∨ (1 : Int32) = 1 := Or.inr rfl
      refine lv_aload_n hx hb d_M_find_192 rfl (lv_at hl 0 rfl) ?_
      refine lv_iconst (v := 2) hx hb d_M_find_193 (by decide) ?_
      refine lv_iload hx hb d_M_find_194 (lv_at hl 5 rfl) ?_
      refine lv_imul hx hb d_M_find_196 ?_
      refine lv_topi (fun x196 ex196 => ?_)
      refine mp_R hx hb hts hown hU (hts _ k_M_41) d_M_find_197 (fun H locs hU => ?_)
      generalize eg197 : mR g181 x196 = g197 at hU
      refine lv_aload_n hx hb d_M_find_200 rfl (lv_at hl 0 rfl) ?_
      refine lv_iconst (v := 1) hx hb d_M_find_201 (by decide) ?_
      refine mp_N hx hb hts hown hU (hts _ k_M_44) hbo202 d_M_find_202 (fun H locs hU => ?_)
      generalize eg202 : mN g197 1 = g202 at hU
      refine lv_aload_n hx hb d_M_find_205 rfl (lv_at hl 0 rfl) ?_
      refine lv_bipush (v := 6) hx hb d_M_find_206 (by decide) ?_
      refine lv_iconst (v := 0) hx hb d_M_find_208 (by decide) ?_
      have e196 : x196 = nI (2 * k) := by rw [ex196]; exact pk_mul 2 k
      have q0 : g202.2.2.2.2.2 = f2 := by rw [← eg202, ← eg197, ← eg181]; rfl
      refine m_callv (m_run (As := [.int 6, .int 0]) (rest := []) hx hb hml hown hts hU (cm_copy l z _ g202 (to := 6) (fr := 0) (by decide) (by decide) (by decide) (by rw [q0]; exact k4)) (w_M_copy_cw hts k_M_73 rfl rfl ⟨Nat.le_of_ble_eq_true rfl, Nat.le_of_ble_eq_true rfl⟩) (m_recv hU) rfl hl.1 rfl (lv_room (Nat.le_of_ble_eq_true rfl)) d_M_find_209 ⟨Nat.zero_le _, Nat.zero_le _⟩) hU (fun g209 H locs hp hU => ?_)
      obtain ⟨f3, rfl, l1, l2, l3⟩ := hp
      rw [q0] at l2 l3
      have hU : Ms z (mF g202 f3) s.heap H locs s := hU
      refine lv_aload_n hx hb d_M_find_212 rfl (lv_at hl 0 rfl) ?_
      refine lv_bipush (v := 7) hx hb d_M_find_213 (by decide) ?_
      refine lv_iconst (v := 1) hx hb d_M_find_215 (by decide) ?_
      refine m_callv (m_run (As := [.int 7, .int 1]) (rest := []) hx hb hml hown hts hU (cm_copy l z _ (mF g202 f3) (to := 7) (fr := 1) (by decide) (by decide) (by decide) l1) (w_M_copy_cw hts k_M_73 rfl rfl ⟨Nat.le_of_ble_eq_true rfl, Nat.le_of_ble_eq_true rfl⟩) (m_recv hU) rfl hl.1 rfl (lv_room (Nat.le_of_ble_eq_true rfl)) d_M_find_216 ⟨Nat.zero_le _, Nat.zero_le _⟩) hU (fun g216 H locs hp hU => ?_)
      obtain ⟨f4, rfl, l4, l5, l6⟩ := hp
      have l5 : rsm f3 f4 7 := l5
      have l6 : rv f4 7 = rv f3 1 := l6
      have z6 : sv f4 6 = ((zT D : Nat) : Int) := by rw [l5.sv (by decide), sv_eq l3, s02]
      have z7 : sv f4 7 = ((wz D).2.1 : Int) := by rw [sv_eq l6, l2.sv (by decide), s1]
      have hU : Ms z (mF g202 f4) s.heap H locs s := hU
      refine lv_aload_n hx hb d_M_find_219 rfl (lv_at hl 0 rfl) ?_
      refine lv_iconst (v := 1) hx hb d_M_find_220 (by decide) ?_
      refine lv_bipush (v := 6) hx hb d_M_find_221 (by decide) ?_
      refine lv_bipush (v := 7) hx hb d_M_find_223 (by decide) ?_
      refine m_callv (m_run (As := [.int 1, .int 6, .int 7]) (rest := []) hx hb hml hown hts hU (cm_multiply l z _ (mF g202 f4) (to := 1) (i := 6) (j := 7) (by decide) (by decide) (by decide) (by decide) (by decide) l4) (w_M_multiply_cw hts k_M_77 rfl rfl ⟨Nat.le_of_ble_eq_true rfl, Nat.le_of_ble_eq_true rfl⟩) (m_recv hU) rfl hl.1 rfl (lv_room (Nat.le_of_ble_eq_true rfl)) d_M_find_225 ⟨Nat.zero_le _, Nat.zero_le _⟩) hU (fun g225 H locs hp hU => ?_)
      obtain ⟨f5, rfl, m1, m2, m3⟩ := hp
      have m2 : rsm f4 f5 1 := m2
      have m3 : rv f5 1 = rv f4 6 * rv f4 7 % WW := m3
      rw [rv_of_sv (by decide) l4 z6, rv_of_sv (by decide) l4 z7, Nat.mod_eq_of_lt (lt_WW hTL)] at m3
      have hU : Ms z (mF g202 f5) s.heap H locs s := hU
      refine lv_aload_n hx hb d_M_find_228 rfl (lv_at hl 0 rfl) ?_
      refine lv_iconst (v := 0) hx hb d_M_find_229 (by decide) ?_
      refine lv_bipush (v := 6) hx hb d_M_find_230 (by decide) ?_
      refine lv_bipush (v := 6) hx hb d_M_find_232 (by decide) ?_
      refine m_callv (m_run (As := [.int 0, .int 6, .int 6]) (rest := []) hx hb hml hown hts hU (cm_multiply l z _ (mF g202 f5) (to := 0) (i := 6) (j := 6) (by decide) (by decide) (by decide) (by decide) (by decide) m1) (w_M_multiply_cw hts k_M_77 rfl rfl ⟨Nat.le_of_ble_eq_true rfl, Nat.le_of_ble_eq_true rfl⟩) (m_recv hU) rfl hl.1 rfl (lv_room (Nat.le_of_ble_eq_true rfl)) d_M_find_234 ⟨Nat.zero_le _, Nat.zero_le _⟩) hU (fun g234 H locs hp hU => ?_)
      obtain ⟨f6, rfl, m4, m5, m6⟩ := hp
      have m5 : rsm f5 f6 0 := m5
      have m6 : rv f6 0 = rv f5 6 * rv f5 6 % WW := m6
      rw [m2.rv (by decide), rv_of_sv (by decide) l4 z6, Nat.mod_eq_of_lt (lt_WW hTT)] at m6
      have hU : Ms z (mF g202 f6) s.heap H locs s := hU
      refine lv_aload_n hx hb d_M_find_237 rfl (lv_at hl 0 rfl) ?_
      refine lv_bipush (v := 10) hx hb d_M_find_238 (by decide) ?_
      refine lv_lconst (v := 1) hx hb d_M_find_240 (by decide) ?_
      refine m_callv (m_run (As := [.int 10, .long 1]) (rest := []) hx hb hml hown hts hU (cm_be l z _ (mF g202 f6) (to := 10) (by decide) (w := 1) (by decide) m4) (w_M_be_cw hts k_M_48 rfl rfl ⟨Nat.le_of_ble_eq_true rfl, Nat.le_of_ble_eq_true rfl⟩) (m_recv hU) rfl hl.1 rfl (lv_room (Nat.le_of_ble_eq_true rfl)) d_M_find_241 ⟨Nat.zero_le _, Nat.zero_le _⟩) hU (fun g241 H locs hp hU => ?_)
      obtain ⟨f7, rfl, o1, o2, o3⟩ := hp
      have o2 : rsm f6 f7 10 := o2
      have hU : Ms z (mF g202 f7) s.heap H locs s := hU
      refine lv_aload_n hx hb d_M_find_244 rfl (lv_at hl 0 rfl) ?_
      refine lv_iconst (v := 0) hx hb d_M_find_245 (by decide) ?_
      refine lv_lconst (v := 1) hx hb d_M_find_246 (by decide) ?_
      refine lv_iconst (v := 0) hx hb d_M_find_247 (by decide) ?_
      refine lv_ldc2 (v := 2) hx hb hown (hts _ k_M_54) d_M_find_248 ?_
      refine lv_bipush (v := 10) hx hb d_M_find_251 (by decide) ?_
      refine m_callv (m_run (As := [.int 0, .long 1, .int 0, .long 2, .int 10]) (rest := []) hx hb hml hown hts hU (cm_combine l z _ (mF g202 f7) (to := 0) (i := 0) (j := 10) (by decide) (by decide) (by decide) (x := 1) (y := 2) (by decide) (by decide) (by decide) (by decide) o1) (w_M_combine_cw hts k_M_69 rfl rfl ⟨Nat.le_of_ble_eq_true rfl, Nat.le_of_ble_eq_true rfl⟩) (m_recv hU) rfl hl.1 rfl (lv_room (Nat.le_of_ble_eq_true rfl)) d_M_find_253 ⟨Nat.zero_le _, Nat.zero_le _⟩) hU (fun g253 H locs hp hU => ?_)
      obtain ⟨f8, rfl, p1, p2, p3⟩ := hp
      have p2 : rsm f7 f8 0 := p2
      have p3 : (rv f8 0 : Int) = ((1 : Int64).toInt * (rv f7 0 : Int) + (2 : Int64).toInt * (rv f7 10 : Int)) % (WW : Int) := p3
      have y0 : sv f7 0 = ((zT D * zT D : Nat) : Int) := sv_of_rv (by rw [o2.rv (by decide), m6]) (lt_HW hTT)
      have y10 : sv f7 10 = ((1 : Nat) : Int) := sv_of_rv o3 (lt_HW (Nat.lt_trans (by decide) h2B))
      have eS2 : (1 : Int64).toInt * sv f7 0 + (2 : Int64).toInt * sv f7 10 = ((zT D * zT D + 2 : Nat) : Int) := by
        rw [y0, y10, show (1 : Int64).toInt = 1 from rfl, show (2 : Int64).toInt = 2 from rfl, Int.natCast_add]
        omega
      have s8 := sv_comb p3 (by rw [eS2]; exact nn_HW _) (by rw [eS2]; exact Int.ofNat_lt.mpr (lt_HW hB))
      rw [eS2] at s8
      exact m_vret hx hb hr hlocks hsz hU (by
        rw [mZ, uZ, if_pos hod, if_pos hod]
        refine ⟨by rw [← eg202, ← eg197, ← eg181]; rfl, by rw [← eg202, ← eg197, ← eg181]; rfl, by rw [← eg202, ← eg197, e196, ← ek]; rfl, by rw [← eg202]; rfl, by rw [← eg202, ← eg197, ← eg181]; rfl, p1, s8, ?_, ?_, ?_⟩
        · show sv f8 1 = _
          rw [p2.sv (by decide), o2.sv (by decide), m5.sv (by decide)]
          exact sv_of_rv m3 (lt_HW hTL)
        · show sv f8 6 = _
          rw [p2.sv (by decide), o2.sv (by decide), m5.sv (by decide), m2.sv (by decide), z6]
        · show sv f8 7 = _
          rw [p2.sv (by decide), o2.sv (by decide), m5.sv (by decide), m2.sv (by decide), z7]) d_M_find_256
    · have h188 : ¬ k % 2 = 1 := by
        intro q
        rw [e187, q] at c188
        exact absurd c188 (by decide)
      have hod : ¬ (wz D).1 % 2 = 1 := by rw [← ek]; exact h188
      exact m_vret hx hb hr hlocks hsz hU (by
        rw [mZ, uZ, if_neg hod, if_neg hod]
        exact ⟨by rw [← eg181]; rfl, by rw [← eg181]; rfl, by rw [← eg181, ← ek]; rfl, by rw [← eg181]; exact hmn, by rw [← eg181]; rfl, by rw [← eg181]; exact k4, by rw [← eg181]; exact s02, by rw [← eg181]; exact s1, by rw [← eg181]; exact v6, by rw [← eg181]; exact v7⟩) d_M_find_191
  have IT : ∀ (A b c7 k L B : Nat) (f : Nat → Int32) (x11 : Int64) (x10 : Int32) (H : Heap) (locs : List Loc) (ls : Array Slot), Red D r A b c7 → k ≤ 1000000 → L < BB → B < BB → (b + r) / (2 * c7) * L + B < BB → dgOk f → sv f 8 = (L : Int) → sv f 9 = (B : Int) → (∀ q, (q < 8800 ∨ 12100 ≤ q) → f q = F q) → (∀ (f : Nat → Int32) (H : Heap) (locs : List Loc) (ls : Array Slot), dgOk f → sv f 8 = (((b + r) / (2 * c7) * L + B : Nat) : Int) → sv f 9 = (L : Int) → (∀ q, (q < 8800 ∨ 12100 ≤ q) → f q = F q) → Ms z (mF g f) s.heap H locs s → lv_has ls 13 [(0, .ref (oM z)), (1, .long (lN r)), (3, .long (lN b0)), (5, .long (lN (nxB r b c7))), (7, .long (lN (2 * nxC D r b c7))), (9, .int (nI (k + 1))), (10, .int (if nxC D r b c7 = 1 then 0 else 1))] → W p l e ({ frames := 3, cells := 0, slots := 0, locals := 75 } : Room) s m ([.ref (oM z)] : List Value).toArray below meth c H locs 0 0 (MQ below (va_Qv (fun g2 => mZ g g2 D) (mO z sz) (yA z sz)) ([.ref (oM z)] : List Value).toArray s 0 0 (yA z sz)) (F0 m 61 ls [])) → Ms z (mF g f) s.heap H locs s → lv_has ls 13 [(0, .ref (oM z)), (1, .long (lN r)), (3, .long (lN b0)), (5, .long (lN b)), (7, .long (lN (2 * c7))), (9, .int (nI k)), (10, .int x10)] → W p l e ({ frames := 3, cells := 0, slots := 0, locals := 75 } : Room) s m ([.ref (oM z)] : List Value).toArray below meth c H locs 0 0 (MQ below (va_Qv (fun g2 => mZ g g2 D) (mO z sz) (yA z sz)) ([.ref (oM z)] : List Value).toArray s 0 0 (yA z sz)) (F0 m 66 ls []) := by
    intro A b c7 k L B f x11 x10 H locs ls hR hk hLb hBb hNb h1 h8 h9 hs cont hU hl
    have hNx := hR.next a4 a5
    obtain ⟨hb2, hA, hc, eD, h10, h2⟩ := id hR
    obtain ⟨n1, n2, n3, n4, n5⟩ := nx_b hb2 hc h10 h2
    obtain ⟨m1, m2⟩ := nx_c a4 hR
    refine lv_lload hx hb d_M_find_66 (lv_at hl 3 rfl) ?_
    refine lv_lload_n hx hb d_M_find_68 rfl (lv_at hl 1 rfl) ?_
    refine lv_ladd hx hb d_M_find_69 ?_
    refine lv_topl (fun x69 ex69 => ?_)
    refine lv_lload hx hb d_M_find_70 (lv_at hl 4 rfl) ?_
    have hne72 : ¬ lN (2 * c7) = 0 := lN_ne0 (by omega) (by omega)
    refine lv_ldiv hx hb d_M_find_72 hne72 ?_
    refine lv_topl (fun x72 ex72 => ?_)
    refine lv_lstore (lv' := [(11, .long x72), (0, .ref (oM z)), (1, .long (lN r)), (3, .long (lN b0)), (5, .long (lN b)), (7, .long (lN (2 * c7))), (9, .int (nI k)), (10, .int x10)]) hx hb d_M_find_73 hl (by decide) rfl (fun ls hl => ?_)
    refine lv_aload_n hx hb d_M_find_75 rfl (lv_at hl 1 rfl) ?_
    refine lv_bipush (v := 10) hx hb d_M_find_76 (by decide) ?_
    refine lv_lload hx hb d_M_find_78 (lv_at hl 0 rfl) ?_
    refine lv_bipush (v := 8) hx hb d_M_find_80 (by decide) ?_
    refine lv_lconst (v := 1) hx hb d_M_find_82 (by decide) ?_
    refine lv_bipush (v := 9) hx hb d_M_find_83 (by decide) ?_
    have e69 : x69 = lN (b + r) := by rw [ex69, lN_add]
    have e72 : x72 = lN ((b + r) / (2 * c7)) := by rw [ex72, e69]; exact pk_lDiv (by omega) (by omega) (by omega)
    obtain ⟨q, eq⟩ : ∃ y, y = (b + r) / (2 * c7) := ⟨_, rfl⟩
    rw [← eq] at e72 hNb
    have hq : q ≤ 2048 := by rw [eq]; exact Nat.le_trans (Nat.div_le_self _ _) (by omega)
    have hqX : 2 * c7 * q ≤ b + r := by rw [eq]; exact Nat.mul_div_le _ _
    have tq : (lN q).toInt = (q : Int) := pk_lT (by omega)
    refine m_callv (m_run (As := [.int 10, .long x72, .int 8, .long 1, .int 9]) (rest := []) hx hb hml hown hts hU (cm_combine l z _ (mF g f) (to := 10) (i := 8) (j := 9) (by decide) (by decide) (by decide) (x := x72) (y := 1) (by rw [e72, tq]; omega) (by rw [e72, tq]; omega) (by decide) (by decide) h1) (w_M_combine_cw hts k_M_69 rfl rfl ⟨Nat.le_of_ble_eq_true rfl, Nat.le_of_ble_eq_true rfl⟩) (m_recv hU) rfl hl.1 rfl (lv_room (Nat.le_of_ble_eq_true rfl)) d_M_find_85 ⟨Nat.zero_le _, Nat.zero_le _⟩) hU (fun g85 H locs hp hU => ?_)
    obtain ⟨f1, rfl, k1, k2, k3⟩ := hp
    have k2 : rsm f f1 10 := k2
    have k3 : (rv f1 10 : Int) = (x72.toInt * (rv f 8 : Int) + (1 : Int64).toInt * (rv f 9 : Int)) % (WW : Int) := k3
    have eS : x72.toInt * sv f 8 + (1 : Int64).toInt * sv f 9 = ((q * L + B : Nat) : Int) := by
      rw [h8, h9, e72, tq, show (1 : Int64).toInt = 1 from rfl, Int.natCast_add, Int.natCast_mul]
      omega
    have s0 := sv_comb k3 (by rw [eS]; exact nn_HW _) (by rw [eS]; exact Int.ofNat_lt.mpr (lt_HW hNb))
    rw [eS] at s0
    have hU : Ms z (mF g f1) s.heap H locs s := hU
    refine lv_aload_n hx hb d_M_find_88 rfl (lv_at hl 1 rfl) ?_
    refine lv_bipush (v := 9) hx hb d_M_find_89 (by decide) ?_
    refine lv_bipush (v := 8) hx hb d_M_find_91 (by decide) ?_
    refine m_callv (m_run (As := [.int 9, .int 8]) (rest := []) hx hb hml hown hts hU (cm_copy l z _ (mF g f1) (to := 9) (fr := 8) (by decide) (by decide) (by decide) k1) (w_M_copy_cw hts k_M_73 rfl rfl ⟨Nat.le_of_ble_eq_true rfl, Nat.le_of_ble_eq_true rfl⟩) (m_recv hU) rfl hl.1 rfl (lv_room (Nat.le_of_ble_eq_true rfl)) d_M_find_93 ⟨Nat.zero_le _, Nat.zero_le _⟩) hU (fun g93 H locs hp hU => ?_)
    obtain ⟨f2, rfl, k4, k5, k6⟩ := hp
    have k5 : rsm f1 f2 9 := k5
    have k6 : rv f2 9 = rv f1 8 := k6
    have hU : Ms z (mF g f2) s.heap H locs s := hU
    refine lv_aload_n hx hb d_M_find_96 rfl (lv_at hl 1 rfl) ?_
    refine lv_bipush (v := 8) hx hb d_M_find_97 (by decide) ?_
    refine lv_bipush (v := 10) hx hb d_M_find_99 (by decide) ?_
    refine m_callv (m_run (As := [.int 8, .int 10]) (rest := []) hx hb hml hown hts hU (cm_copy l z _ (mF g f2) (to := 8) (fr := 10) (by decide) (by decide) (by decide) k4) (w_M_copy_cw hts k_M_73 rfl rfl ⟨Nat.le_of_ble_eq_true rfl, Nat.le_of_ble_eq_true rfl⟩) (m_recv hU) rfl hl.1 rfl (lv_room (Nat.le_of_ble_eq_true rfl)) d_M_find_101 ⟨Nat.zero_le _, Nat.zero_le _⟩) hU (fun g101 H locs hp hU => ?_)
    obtain ⟨f3, rfl, k7, k8, k9⟩ := hp
    have k8 : rsm f2 f3 8 := k8
    have k9 : rv f3 8 = rv f2 10 := k9
    have hU : Ms z (mF g f3) s.heap H locs s := hU
    refine lv_lload hx hb d_M_find_104 (lv_at hl 0 rfl) ?_
    refine lv_lload hx hb d_M_find_106 (lv_at hl 5 rfl) ?_
    refine lv_lmul hx hb d_M_find_108 ?_
    refine lv_topl (fun x108 ex108 => ?_)
    refine lv_lload hx hb d_M_find_109 (lv_at hl 4 rfl) ?_
    refine lv_lsub hx hb d_M_find_111 ?_
    refine lv_topl (fun x111 ex111 => ?_)
    refine lv_lstore (lv' := [(5, .long x111), (11, .long x72), (0, .ref (oM z)), (1, .long (lN r)), (3, .long (lN b0)), (7, .long (lN (2 * c7))), (9, .int (nI k)), (10, .int x10)]) hx hb d_M_find_112 hl (by decide) rfl (fun ls hl => ?_)
    refine lv_aload_n hx hb d_M_find_114 rfl (lv_at hl 2 rfl) ?_
    refine va_get (D := z.1) (ci := 3) (v := .long ((mF g f3).2.1)) (C := R_M) (T := F_M) (N := 9) hx hb hts in_M hown hU.2.1 hU.1 0 rfl rfl 1 (by decide) (hts _ k_M_9) (fun _ h9 => h9) rfl d_M_find_115 ?_
    refine lv_topl (fun x115 ex115 => ?_)
    refine lv_lload hx hb d_M_find_118 (lv_at hl 0 rfl) ?_
    refine lv_lload hx hb d_M_find_120 (lv_at hl 0 rfl) ?_
    refine lv_lmul hx hb d_M_find_122 ?_
    refine lv_topl (fun x122 ex122 => ?_)
    refine lv_lsub hx hb d_M_find_123 ?_
    refine lv_topl (fun x123 ex123 => ?_)
    refine lv_lload hx hb d_M_find_124 (lv_at hl 5 rfl) ?_
    have eX : nxB r b c7 = 2 * c7 * q - b := by rw [eq]; rfl
    have e108 : x108 = lN (2 * c7 * q) := by rw [ex108, e72, lN_mul, Nat.mul_comm q]
    have e111 : x111 = lN (nxB r b c7) := by
      rw [ex111, e108, eX]
      exact lN_sub (by rw [eq]; exact n1)
    have hsq2 : nxB r b c7 * nxB r b c7 ≤ D := by omega
    have e115 : x115 = lN D := by rw [ex115]; exact hdd
    have e122 : x122 = lN (nxB r b c7 * nxB r b c7) := by rw [ex122, e111, lN_mul]
    have e123 : x123 = lN (D - nxB r b c7 * nxB r b c7) := by rw [ex123, e115, e122]; exact lN_sub hsq2
    have hne126 : ¬ lN (2 * c7) = 0 := hne72
    refine lv_ldiv hx hb d_M_find_126 hne126 ?_
    refine lv_topl (fun x126 ex126 => ?_)
    refine lv_lstore (lv' := [(7, .long x126), (5, .long x111), (11, .long x72), (0, .ref (oM z)), (1, .long (lN r)), (3, .long (lN b0)), (9, .int (nI k)), (10, .int x10)]) hx hb d_M_find_127 hl (by decide) rfl (fun ls hl => ?_)
    obtain ⟨x129, ex129⟩ : ∃ y : Int32, y = (nI k) + Int32.ofInt 1 := ⟨_, rfl⟩
    refine lv_iinc (v := x129) (lv' := [(9, .int x129), (7, .long x126), (5, .long x111), (11, .long x72), (0, .ref (oM z)), (1, .long (lN r)), (3, .long (lN b0)), (10, .int x10)]) hx hb d_M_find_129 hl (k := 6) rfl (by rw [ex129]) (by decide) rfl (fun ls hl => ?_)
    refine lv_lload hx hb d_M_find_132 (lv_at hl 2 rfl) ?_
    refine lv_lload_n hx hb d_M_find_134 rfl (lv_at hl 6 rfl) ?_
    refine W.lcmp hx hb d_M_find_135 ?_
    have e126 : x126 = lN (2 * nxC D r b c7) := by
      rw [ex126, e123, pk_lDiv (by omega) (by omega) (by omega)]
      have e9 : D - nxB r b c7 * nxB r b c7 = 2 * c7 * (2 * nxC D r b c7) := by
        have : 4 * (c7 * nxC D r b c7) = 2 * c7 * (2 * nxC D r b c7) := by rw [Nat.mul_mul_mul_comm]
        omega
      rw [e9, Nat.mul_div_cancel_left _ (by omega)]
    have hBd : nxC D r b c7 ≤ 2048 := by have := hNx.2.2.2.2.2; omega
    rw [e126, e111, ex129, show Int32.ofInt 1 = 1 from rfl, nI_1] at hl
    have y8 : sv f3 8 = ((q * L + B : Nat) : Int) := by rw [sv_eq k9, k5.sv (by decide), s0]
    have y9 : sv f3 9 = (L : Int) := by rw [k8.sv (by decide), sv_eq k6, k2.sv (by decide), h8]
    have ys : ∀ q, (q < 8800 ∨ 12100 ≤ q) → f3 q = F q := fun q hq => by rw [k8 q (by omega), k5 q (by omega), k2 q (by omega)]; exact hs q hq
    have fin : ∀ (v : Int32) (ls : Array Slot), v = (if nxC D r b c7 = 1 then 0 else 1) → lv_has ls 13 [(0, .ref (oM z)), (1, .long (lN r)), (3, .long (lN b0)), (5, .long (lN (nxB r b c7))), (7, .long (lN (2 * nxC D r b c7))), (9, .int (nI (k + 1))), (10, .int v)] → W p l e _ s m _ below meth c _ _ 0 0 _ (F0 m 61 ls []) := fun v ls hv hl => cont f3 _ _ ls k7 (by rw [y8, eq]) y9 ys hU (by rw [← hv]; exact hl)
    rw [e111]
    refine lv_if_ne (tgt := 148) hx hb d_M_find_136 (by decide) (fun c136 => ?_) (fun c136 => ?_)
    · have h136 : ¬ nxC D r b c7 = 1 := fun q => by
        have hb5 : nxB r b c7 = b0 := hone _ _ (by rw [q] at hNx; exact hNx)
        exact c136 ((lg_cmp_eq _ _).mpr (by rw [hb5]))
      refine lv_iconst (v := 1) hx hb d_M_find_148 (by decide) ?_
      refine lv_goto (tgt := 153) hx hb d_M_find_149 (by decide) ?_
      refine lv_istore (lv' := [(10, .int 1), (9, .int (nI (k + 1))), (7, .long (lN (2 * nxC D r b c7))), (5, .long (lN (nxB r b c7))), (11, .long x72), (0, .ref (oM z)), (1, .long (lN r)), (3, .long (lN b0))]) hx hb d_M_find_153 hl (by decide) rfl (fun ls hl => ?_)
      refine lv_goto (tgt := 61) hx hb d_M_find_155 (by decide) ?_
      exact fin 1 ls (by rw [if_neg h136]) (lv_sub hl [5, 6, 7, 3, 2, 1, 0] rfl)
    · refine lv_lload hx hb d_M_find_139 (lv_at hl 1 rfl) ?_
      refine lv_ldc2 (v := 2) hx hb hown (hts _ k_M_54) d_M_find_141 ?_
      refine W.lcmp hx hb d_M_find_144 ?_
      refine lv_if_eq (tgt := 152) hx hb d_M_find_145 (by decide) (fun c145 => ?_) (fun c145 => ?_)
      · have h145 : nxC D r b c7 = 1 := by
          have q := (lg_cmp_eq _ _).mp c145
          rw [show (2 : Int64) = lN 2 from rfl, pk_lEQ (by omega) (by decide)] at q
          omega
        refine lv_iconst (v := 0) hx hb d_M_find_152 (by decide) ?_
        refine lv_istore (lv' := [(10, .int 0), (9, .int (nI (k + 1))), (7, .long (lN (2 * nxC D r b c7))), (5, .long (lN (nxB r b c7))), (11, .long x72), (0, .ref (oM z)), (1, .long (lN r)), (3, .long (lN b0))]) hx hb d_M_find_153 hl (by decide) rfl (fun ls hl => ?_)
        refine lv_goto (tgt := 61) hx hb d_M_find_155 (by decide) ?_
        exact fin 0 ls (by rw [if_pos h145]) (lv_sub hl [5, 6, 7, 3, 2, 1, 0] rfl)
      · have h145 : ¬ nxC D r b c7 = 1 := fun q => c145 ((lg_cmp_eq _ _).mpr (by rw [q]; rfl))
        refine lv_iconst (v := 1) hx hb d_M_find_148 (by decide) ?_
        refine lv_goto (tgt := 153) hx hb d_M_find_149 (by decide) ?_
        refine lv_istore (lv' := [(10, .int 1), (9, .int (nI (k + 1))), (7, .long (lN (2 * nxC D r b c7))), (5, .long (lN (nxB r b c7))), (11, .long x72), (0, .ref (oM z)), (1, .long (lN r)), (3, .long (lN b0))]) hx hb d_M_find_153 hl (by decide) rfl (fun ls hl => ?_)
        refine lv_goto (tgt := 61) hx hb d_M_find_155 (by decide) ?_
        exact fin 1 ls (by rw [if_neg h145]) (lv_sub hl [5, 6, 7, 3, 2, 1, 0] rfl)
  have K : ∀ (t A b c7 k L B : Nat) (f : Nat → Int32) (x11 : Int64) (H : Heap) (locs : List Loc) (ls : Array Slot), k + t = 1000000 → Red D r A b c7 → wkF D r t b c7 → wz D = wkZ D r t b c7 k L B → B < BB → dgOk f → sv f 8 = (L : Int) → sv f 9 = (B : Int) → (∀ q, (q < 8800 ∨ 12100 ≤ q) → f q = F q) → Ms z (mF g f) s.heap H locs s → lv_has ls 13 [(0, .ref (oM z)), (1, .long (lN r)), (3, .long (lN b0)), (5, .long (lN b)), (7, .long (lN (2 * c7))), (9, .int (nI k)), (10, .int (if c7 = 1 then 0 else 1))] → W p l e ({ frames := 3, cells := 0, slots := 0, locals := 75 } : Room) s m ([.ref (oM z)] : List Value).toArray below meth c H locs 0 0 (MQ below (va_Qv (fun g2 => mZ g g2 D) (mO z sz) (yA z sz)) ([.ref (oM z)] : List Value).toArray s 0 0 (yA z sz)) (F0 m 61 ls []) := by
    intro t
    induction t with
    | zero =>
      intro A b c7 k L B f x11 H locs ls hk hR hF hw hBb h1 h8 h9 hs hU hl
      have hc1 : c7 = 1 := by have := hR.2.2.1; have hF : c7 ≤ 1 := hF; omega
      rw [if_pos hc1] at hl
      refine lv_iload hx hb d_M_find_61 (lv_at hl 6 rfl) ?_
      refine lv_if_eq (tgt := 158) hx hb d_M_find_63 (by decide) (fun c63 => ?_) (fun c63 => ?_)
      · exact X k L B f _ _ 0 _ _ _ ls hw (by omega) h1 h8 h9 hs hU hl
      · exact absurd rfl c63
    | succ t ih =>
      intro A b c7 k L B f x11 H locs ls hk hR hF hw hBb h1 h8 h9 hs hU hl
      by_cases hc1 : c7 = 1
      · rw [if_pos hc1] at hl
        rw [wkZ, if_pos (by omega)] at hw
        refine lv_iload hx hb d_M_find_61 (lv_at hl 6 rfl) ?_
        refine lv_if_eq (tgt := 158) hx hb d_M_find_63 (by decide) (fun c63 => ?_) (fun c63 => ?_)
        · exact X k L B f _ _ 0 _ _ _ ls hw (by omega) h1 h8 h9 hs hU hl
        · exact absurd rfl c63
      · rw [if_neg hc1] at hl
        have hcg : ¬ c7 ≤ 1 := by have := hR.2.2.1; omega
        have hF2 : wkF D r t (nxB r b c7) (nxC D r b c7) := hF.resolve_left hcg
        rw [wkZ, if_neg hcg] at hw
        have hNx := hR.next a4 a5
        have hge := wkZ_ge a4 a5 t _ _ _ (k + 1) ((b + r) / (2 * c7) * L + B) L hNx
        rw [← hw] at hge
        have hql2 : L ≤ (b + r) / (2 * c7) * L + B := Nat.le_trans (Nat.le_of_eq (Nat.one_mul L).symm) (Nat.le_trans (Nat.mul_le_mul_right _ (nx_q hR.2.2.1 hR.2.2.2.2.2)) (Nat.le_add_right _ _))
        refine lv_iload hx hb d_M_find_61 (lv_at hl 6 rfl) ?_
        refine lv_if_eq (tgt := 158) hx hb d_M_find_63 (by decide) (fun c63 => ?_) (fun c63 => ?_)
        · exact absurd c63 (by decide)
        · exact IT A b c7 k L B f 0 1 _ _ ls hR (by omega) (Nat.lt_of_le_of_lt (Nat.le_trans hql2 hge) hLB) hBb (Nat.lt_of_le_of_lt hge hLB) h1 h8 h9 hs (fun f H locs ls g1 g2 g3 g4 g5 g6 => ih c7 _ _ (k + 1) _ L f 0 H locs ls (by omega) hNx hF2 hw (Nat.lt_of_le_of_lt (Nat.le_trans hql2 hge) hLB) g1 g2 g3 g4 g5 g6) hU hl
  have E32 : ∀ (v : Int64) (H : Heap) (locs : List Loc) (ls : Array Slot), v = lN b0 → Ms z g s.heap H locs s → lv_has ls 13 [(0, .ref (oM z)), (1, .long (lN r))] → W p l e ({ frames := 3, cells := 0, slots := 0, locals := 75 } : Room) s m ([.ref (oM z)] : List Value).toArray below meth c H locs 0 0 (MQ below (va_Qv (fun g2 => mZ g g2 D) (mO z sz) (yA z sz)) ([.ref (oM z)] : List Value).toArray s 0 0 (yA z sz)) (F0 m 32 ls [.long v]) := by
    intro v H locs ls hv hU hl
    subst hv
    refine lv_lstore_n (lv' := [(3, .long (lN b0)), (0, .ref (oM z)), (1, .long (lN r))]) hx hb d_M_find_32 rfl hl (by decide) rfl (fun ls hl => ?_)
    refine lv_lload_n hx hb d_M_find_33 rfl (lv_at hl 0 rfl) ?_
    refine lv_lstore (lv' := [(5, .long (lN b0)), (3, .long (lN b0)), (0, .ref (oM z)), (1, .long (lN r))]) hx hb d_M_find_34 hl (by decide) rfl (fun ls hl => ?_)
    refine lv_ldc2 (v := 2) hx hb hown (hts _ k_M_54) d_M_find_36 ?_
    refine lv_lstore (lv' := [(7, .long 2), (5, .long (lN b0)), (3, .long (lN b0)), (0, .ref (oM z)), (1, .long (lN r))]) hx hb d_M_find_39 hl (by decide) rfl (fun ls hl => ?_)
    refine lv_aload_n hx hb d_M_find_41 rfl (lv_at hl 3 rfl) ?_
    refine lv_bipush (v := 8) hx hb d_M_find_42 (by decide) ?_
    refine lv_lconst (v := 0) hx hb d_M_find_44 (by decide) ?_
    refine m_callv (m_run (As := [.int 8, .long 0]) (rest := []) hx hb hml hown hts hU (cm_be l z _ g (to := 8) (by decide) (w := 0) (by decide) hok) (w_M_be_cw hts k_M_48 rfl rfl ⟨Nat.le_of_ble_eq_true rfl, Nat.le_of_ble_eq_true rfl⟩) (m_recv hU) rfl hl.1 rfl (lv_room (Nat.le_of_ble_eq_true rfl)) d_M_find_45 ⟨Nat.zero_le _, Nat.zero_le _⟩) hU (fun g45 H locs hp hU => ?_)
    obtain ⟨f1, rfl, k1, k2, k3⟩ := hp
    rw [← eF] at k2
    have hU : Ms z (mF g f1) s.heap H locs s := hU
    refine lv_aload_n hx hb d_M_find_48 rfl (lv_at hl 3 rfl) ?_
    refine lv_bipush (v := 9) hx hb d_M_find_49 (by decide) ?_
    refine lv_lconst (v := 1) hx hb d_M_find_51 (by decide) ?_
    refine m_callv (m_run (As := [.int 9, .long 1]) (rest := []) hx hb hml hown hts hU (cm_be l z _ (mF g f1) (to := 9) (by decide) (w := 1) (by decide) k1) (w_M_be_cw hts k_M_48 rfl rfl ⟨Nat.le_of_ble_eq_true rfl, Nat.le_of_ble_eq_true rfl⟩) (m_recv hU) rfl hl.1 rfl (lv_room (Nat.le_of_ble_eq_true rfl)) d_M_find_52 ⟨Nat.zero_le _, Nat.zero_le _⟩) hU (fun g52 H locs hp hU => ?_)
    obtain ⟨f2, rfl, k4, k5, k6⟩ := hp
    have k5 : rsm f1 f2 9 := k5
    have hU : Ms z (mF g f2) s.heap H locs s := hU
    refine lv_iconst (v := 0) hx hb d_M_find_55 (by decide) ?_
    refine lv_istore (lv' := [(9, .int 0), (7, .long 2), (5, .long (lN b0)), (3, .long (lN b0)), (0, .ref (oM z)), (1, .long (lN r))]) hx hb d_M_find_56 hl (by decide) rfl (fun ls hl => ?_)
    refine lv_iconst (v := 1) hx hb d_M_find_58 (by decide) ?_
    refine lv_istore (lv' := [(10, .int 1), (9, .int 0), (7, .long 2), (5, .long (lN b0)), (3, .long (lN b0)), (0, .ref (oM z)), (1, .long (lN r))]) hx hb d_M_find_59 hl (by decide) rfl (fun ls hl => ?_)
    refine lv_iload hx hb d_M_find_61 (lv_at hl 0 rfl) ?_
    refine lv_if_eq (tgt := 158) hx hb d_M_find_63 (by decide) (fun c63 => ?_) (fun c63 => ?_)
    · exact absurd c63 (by decide)
    · exact IT c00 b0 1 0 0 1 f2 0 1 _ _ ls hpre (by decide) BB_pos (Nat.lt_trans (by decide) h2B) (by rw [Nat.mul_zero, Nat.zero_add]; exact Nat.lt_trans (by decide) h2B) k4 (by rw [k5.sv (by decide)]; exact sv_of_rv k3 HW_pos) (sv_of_rv k6 (lt_HW (Nat.lt_trans (by decide) h2B))) (fun q hq => by rw [k5 q (by omega), k2 q (by omega)]) (fun f H locs ls g1 g2 g3 g4 g5 g6 => by
        rw [hpB, hpC] at g6
        rw [Nat.mul_zero, Nat.zero_add] at g2
        exact K 999999 1 b0 c00 1 1 0 f 0 H locs ls (by decide) hred hE ewz BB_pos g1 g2 g3 g4 g5 g6) hU (lv_sub hl [5, 6, 4, 3, 2, 1, 0] rfl)
  refine lv_aload_n hx hb d_M_find_0 rfl (lv_at hl 0 rfl) ?_
  refine va_get (D := z.1) (ci := 3) (v := .long g.2.1) (C := R_M) (T := F_M) (N := 9) hx hb hts in_M hown hU.2.1 hU.1 0 rfl rfl 1 (by decide) (hts _ k_M_9) (fun _ h9 => h9) rfl d_M_find_1 ?_
  refine lv_topl (fun x1 ex1 => ?_)
  have e1 : x1 = lN D := by rw [ex1]; exact hdd
  rw [e1]
  refine pr_call (As := [.long (lN D)]) (rest := []) hx hb hml hown hts (cm_wholeRoot l (V := D) (by omega)) (w_M_wholeRoot_cw hts k_M_65 rfl rfl ⟨Nat.le_of_ble_eq_true rfl, Nat.le_of_ble_eq_true rfl⟩) rfl hl.1 rfl (lv_room (Nat.le_of_ble_eq_true rfl)) d_M_find_4 ⟨Nat.zero_le _, Nat.zero_le _⟩ ?_
  refine lv_topl (fun x4 ex4 => ?_)
  have e4 : x4 = lN r := by rw [ex4, hsq]
  rw [e4]
  refine lv_lstore_n (lv' := [(1, .long (lN r)), (0, .ref (oM z))]) hx hb d_M_find_7 rfl hl (by decide) rfl (fun ls hl => ?_)
  refine lv_lload_n hx hb d_M_find_8 rfl (lv_at hl 0 rfl) ?_
  refine lv_ldc2 (v := 2) hx hb hown (hts _ k_M_54) d_M_find_9 ?_
  have hne12 : ¬ (2 : Int64) = 0 := by decide
  refine lv_lrem hx hb d_M_find_12 hne12 ?_
  refine lv_topl (fun x12 ex12 => ?_)
  refine lv_aload_n hx hb d_M_find_13 rfl (lv_at hl 1 rfl) ?_
  refine va_get (D := z.1) (ci := 3) (v := .long g.2.1) (C := R_M) (T := F_M) (N := 9) hx hb hts in_M hown hU.2.1 hU.1 0 rfl rfl 1 (by decide) (hts _ k_M_9) (fun _ h9 => h9) rfl d_M_find_14 ?_
  refine lv_topl (fun x14 ex14 => ?_)
  refine lv_ldc2 (v := 2) hx hb hown (hts _ k_M_54) d_M_find_17 ?_
  have hne20 : ¬ (2 : Int64) = 0 := by decide
  refine lv_lrem hx hb d_M_find_20 hne20 ?_
  refine lv_topl (fun x20 ex20 => ?_)
  refine W.lcmp hx hb d_M_find_21 ?_
  have e12 : x12 = lN (r % 2) := by rw [ex12]; exact pk_lRem (b := 2) (by omega) (by decide) (by decide)
  have e14 : x14 = lN D := by rw [ex14]; exact hdd
  have e20 : x20 = lN (D % 2) := by rw [ex20, e14]; exact pk_lRem (b := 2) (by omega) (by decide) (by decide)
  refine lv_if_ne (tgt := 29) hx hb d_M_find_22 (by decide) (fun c22 => ?_) (fun c22 => ?_)
  · have h22 : ¬ r % 2 = D % 2 := fun q => c22 ((lg_cmp_eq _ _).mpr (by rw [e12, e20, q]))
    refine lv_lload_n hx hb d_M_find_29 rfl (lv_at hl 0 rfl) ?_
    refine lv_lconst (v := 1) hx hb d_M_find_30 (by decide) ?_
    refine lv_lsub hx hb d_M_find_31 ?_
    refine lv_topl (fun x31 ex31 => ?_)
    have e31 : x31 = lN b0 := by
      rw [ex31, show (1 : Int64) = lN 1 from rfl, lN_sub (by omega), eb0, fB, ← er, if_neg (by omega)]
    exact E32 x31 _ _ ls e31 hU (lv_sub hl [1, 0] rfl)
  · have h22 : r % 2 = D % 2 := by
      have q := (lg_cmp_eq _ _).mp c22
      rw [e12, e20, pk_lEQ (by omega) (by omega)] at q
      exact q
    refine lv_lload_n hx hb d_M_find_25 rfl (lv_at hl 0 rfl) ?_
    refine lv_goto (tgt := 32) hx hb d_M_find_26 (by decide) ?_
    exact E32 (lN r) _ _ ls (by rw [eb0, fB, ← er, if_pos (by omega), Nat.sub_zero]) hU (lv_sub hl [1, 0] rfl)
