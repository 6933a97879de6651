/-! CONSTRUCTORS OF UnitFinder AND UnitFinderModel -/
theorem va_S.more {A B : Nat → Prop} {H0 H : Heap} {locs : List Loc} (h : va_S A H0 H locs) (hAB : ∀ q, A q → B q) : va_S B H0 H locs := ⟨h.1, fun q h1 h2 => h.2.1 q h1 (fun w => h2 (hAB q w)), fun q hq => hAB _ (h.2.2 q hq)⟩
theorem uw_at (z : ZZ) (g : St) : ∀ k, k < 22 → ∃ e : va_E, (uw z g)[k]? = some (z.2.1 k, e)
  | 0, _ => ⟨_, rfl⟩
  | 1, _ => ⟨_, rfl⟩
  | 2, _ => ⟨_, rfl⟩
  | 3, _ => ⟨_, rfl⟩
  | 4, _ => ⟨_, rfl⟩
  | 5, _ => ⟨_, rfl⟩
  | 6, _ => ⟨_, rfl⟩
  | 7, _ => ⟨_, rfl⟩
  | 8, _ => ⟨_, rfl⟩
  | 9, _ => ⟨_, rfl⟩
  | 10, _ => ⟨_, rfl⟩
  | 11, _ => ⟨_, rfl⟩
  | 12, _ => ⟨_, rfl⟩
  | 13, _ => ⟨_, rfl⟩
  | 14, _ => ⟨_, rfl⟩
  | 15, _ => ⟨_, rfl⟩
  | 16, _ => ⟨_, rfl⟩
  | 17, _ => ⟨_, rfl⟩
  | 18, _ => ⟨_, rfl⟩
  | 19, _ => ⟨_, rfl⟩
  | 20, _ => ⟨_, rfl⟩
  | 21, _ => ⟨_, rfl⟩
  | k + 22, h => absurd h (by omega)
theorem zA_A {z : ZZ} {g : St} {sz : Nat} {A : Nat → Prop} (hD : va_D A (uw z g)) (hA : ∀ q, sz ≤ q → A q) : ∀ q, zA z sz q → A q := by
  intro q h
  rcases h with ⟨k, hk, rfl⟩ | h
  · obtain ⟨e, he⟩ := uw_at z g k hk
    exact hD.2 k _ he
  · exact hA q h
theorem tk_m4 : tk (-4) := ⟨by decide, by decide, by decide, by rw [rt_neg (by decide)]; decide⟩
abbrev unN (a : Nat) : va_W := [(a, .inr (0, [.null, .null, .null, .null, .null, .null, .null, .null, .null, .int 0, .int 0]))]
abbrev g00 : St := (0, 0, fun _ => 0, fun _ => (0, 0, fun _ => 0))
set_option maxHeartbeats 4000000 in
set_option maxRecDepth 100000 in
theorem c_Uinit (l : Launch) (D : va_G) (a sz : Nat) : Met l y_U_init (zw y_U_init b_U_init 1 none) { frames := 6, cells := 21, slots := 5156, locals := 151 } (va_Pc [.ref a] (fun U => nIn D (unN a) sz U ∧ zN U)) (va_Qv (fun u : ZZ × St => u.1.1 = D ∧ mA u.1 = a ∧ cS u.2 (-4) 1 0 1) (fun u t => va_P u.1.1 vwCl (uw u.1 u.2) t.heap ∧ va_K u.1.1 vwCl (zty u.1) t ∧ va_D (va_A (unN a) sz) (uw u.1 u.2)) (va_A (unN a) sz)) 21 5156 (va_A (unN a) sz) := by
  refine Met.ofW (cc := b_U_init) (maxL := 1) (ret := none) (by decide) rfl ?_
  intro p e s m args below meth c s₁ B hml hv
  obtain ⟨rfl, ⟨rfl, hP, hK, hD0⟩, hN⟩ := hv
  have hts0 := atoms_spec (ws := zw y_U_init b_U_init 1 none) B.pre
  have hts : ∀ w ∈ zt, w.before ([Value.ref a] : List Value).toArray s = true := fun w hw => hts0 w (List.mem_cons_of_mem _ hw)
  have hown : s.vm.findClass y_U_init.cls = some m.cls := findClass_of_methodNamed B.named
  have hin : meth.name = "<init>" := (name_of_methodNamed B.named B.method).1
  have hx := B.exec
  have hb := B.bytes
  have hr := B.returns
  have hlocks := B.notSynchronized
  have hl := lv_entry [.ref a] (n := 1) (Nat.le_of_ble_eq_true rfl)
  rw [lg_entry_eq]
  have hD : va_D (va_A (unN a) s.heap.size) (unN a) := hD0.self
  have hS : va_S (va_A (unN a) s.heap.size) s.heap s.heap [] := va_S.rf
  have hA : ∀ q, s.heap.size ≤ q → va_A (unN a) s.heap.size q := fun q h => Or.inr h
  have hl : lv_has _ 1 [(0, .ref a)] := hl
  refine lv_aload_n hx hb d_U_init_0 rfl (lv_at hl 0 rfl) ?_
  refine W.objInit hx hb hown (hts _ k_U_1) (hts _ o_im) (hts _ o_co) rfl (hl.1.trans hml.symm) rfl d_U_init_1 (Nat.le_of_ble_eq_true rfl) (Nat.le_of_ble_eq_true rfl) ?_
  refine lv_aload_n hx hb d_U_init_4 rfl (lv_at hl 0 rfl) ?_
  refine nBig hx hb hml hown hts kB_U7 k_U_9 hK hP hD hS hA hl.1 ⟨by decide, by decide⟩ (by decide) (by decide) d_U_init_5 d_U_init_8 d_U_init_9 (Nat.le_of_ble_eq_true rfl) (fun b0 r0 c0 H locs hK hP hD hS => ?_)
  refine va_putF (D := D) (ci := 0) (v := .ref b0) (ty := .object "UnitFinder$Big") (C := R_U) (T := F_U) (N := 11) hx hb hts in_U t_U t_U_ok n_U hown hK hP hD hS 0 rfl rfl 0 (by decide) (hts _ k_U_10) (fun _ h9 => h9) rfl hin rfl (by decide +kernel) rfl rfl (Nat.le_of_ble_eq_true rfl) d_U_init_12 (fun H locs hP hD hS => ?_)
  have hP : va_P D vwCl [(a, .inr (0, [.ref b0, .null, .null, .null, .null, .null, .null, .null, .null, .int 0, .int 0])), (b0, .inr (2, [.ref r0, .int 0, .int 0])), (r0, .inl (c0, 512, .inl (fun _ => (0 : Int32))))] H := hP
  have hD : va_D (va_A (unN a) s.heap.size) [(a, .inr (0, [.ref b0, .null, .null, .null, .null, .null, .null, .null, .null, .int 0, .int 0])), (b0, .inr (2, [.ref r0, .int 0, .int 0])), (r0, .inl (c0, 512, .inl (fun _ => (0 : Int32))))] := hD
  have hK : va_K D vwCl [(c0, .int)] s := hK
  refine lv_aload_n hx hb d_U_init_15 rfl (lv_at hl 0 rfl) ?_
  refine nBig hx hb hml hown hts kB_U7 k_U_9 hK hP hD hS hA hl.1 ⟨by decide, by decide⟩ (by decide) (by decide) d_U_init_16 d_U_init_19 d_U_init_20 (Nat.le_of_ble_eq_true rfl) (fun b1 r1 c1 H locs hK hP hD hS => ?_)
  refine va_putF (D := D) (ci := 0) (v := .ref b1) (ty := .object "UnitFinder$Big") (C := R_U) (T := F_U) (N := 11) hx hb hts in_U t_U t_U_ok n_U hown hK hP hD hS 0 rfl rfl 1 (by decide) (hts _ k_U_16) (fun _ h9 => h9) rfl hin rfl (by decide +kernel) rfl rfl (Nat.le_of_ble_eq_true rfl) d_U_init_23 (fun H locs hP hD hS => ?_)
  have hP : va_P D vwCl [(a, .inr (0, [.ref b0, .ref b1, .null, .null, .null, .null, .null, .null, .null, .int 0, .int 0])), (b0, .inr (2, [.ref r0, .int 0, .int 0])), (r0, .inl (c0, 512, .inl (fun _ => (0 : Int32)))), (b1, .inr (2, [.ref r1, .int 0, .int 0])), (r1, .inl (c1, 512, .inl (fun _ => (0 : Int32))))] H := hP
  have hD : va_D (va_A (unN a) s.heap.size) [(a, .inr (0, [.ref b0, .ref b1, .null, .null, .null, .null, .null, .null, .null, .int 0, .int 0])), (b0, .inr (2, [.ref r0, .int 0, .int 0])), (r0, .inl (c0, 512, .inl (fun _ => (0 : Int32)))), (b1, .inr (2, [.ref r1, .int 0, .int 0])), (r1, .inl (c1, 512, .inl (fun _ => (0 : Int32))))] := hD
  have hK : va_K D vwCl [(c0, .int), (c1, .int)] s := hK
  refine lv_aload_n hx hb d_U_init_26 rfl (lv_at hl 0 rfl) ?_
  refine nBig hx hb hml hown hts kB_U7 k_U_9 hK hP hD hS hA hl.1 ⟨by decide, by decide⟩ (by decide) (by decide) d_U_init_27 d_U_init_30 d_U_init_31 (Nat.le_of_ble_eq_true rfl) (fun b2 r2 c2 H locs hK hP hD hS => ?_)
  refine va_putF (D := D) (ci := 0) (v := .ref b2) (ty := .object "UnitFinder$Big") (C := R_U) (T := F_U) (N := 11) hx hb hts in_U t_U t_U_ok n_U hown hK hP hD hS 0 rfl rfl 2 (by decide) (hts _ k_U_19) (fun _ h9 => h9) rfl hin rfl (by decide +kernel) rfl rfl (Nat.le_of_ble_eq_true rfl) d_U_init_34 (fun H locs hP hD hS => ?_)
  have hP : va_P D vwCl [(a, .inr (0, [.ref b0, .ref b1, .ref b2, .null, .null, .null, .null, .null, .null, .int 0, .int 0])), (b0, .inr (2, [.ref r0, .int 0, .int 0])), (r0, .inl (c0, 512, .inl (fun _ => (0 : Int32)))), (b1, .inr (2, [.ref r1, .int 0, .int 0])), (r1, .inl (c1, 512, .inl (fun _ => (0 : Int32)))), (b2, .inr (2, [.ref r2, .int 0, .int 0])), (r2, .inl (c2, 512, .inl (fun _ => (0 : Int32))))] H := hP
  have hD : va_D (va_A (unN a) s.heap.size) [(a, .inr (0, [.ref b0, .ref b1, .ref b2, .null, .null, .null, .null, .null, .null, .int 0, .int 0])), (b0, .inr (2, [.ref r0, .int 0, .int 0])), (r0, .inl (c0, 512, .inl (fun _ => (0 : Int32)))), (b1, .inr (2, [.ref r1, .int 0, .int 0])), (r1, .inl (c1, 512, .inl (fun _ => (0 : Int32)))), (b2, .inr (2, [.ref r2, .int 0, .int 0])), (r2, .inl (c2, 512, .inl (fun _ => (0 : Int32))))] := hD
  have hK : va_K D vwCl [(c0, .int), (c1, .int), (c2, .int)] s := hK
  refine lv_aload_n hx hb d_U_init_37 rfl (lv_at hl 0 rfl) ?_
  refine nBig hx hb hml hown hts kB_U7 k_U_9 hK hP hD hS hA hl.1 ⟨by decide, by decide⟩ (by decide) (by decide) d_U_init_38 d_U_init_41 d_U_init_42 (Nat.le_of_ble_eq_true rfl) (fun b3 r3 c3 H locs hK hP hD hS => ?_)
  refine va_putF (D := D) (ci := 0) (v := .ref b3) (ty := .object "UnitFinder$Big") (C := R_U) (T := F_U) (N := 11) hx hb hts in_U t_U t_U_ok n_U hown hK hP hD hS 0 rfl rfl 3 (by decide) (hts _ k_U_22) (fun _ h9 => h9) rfl hin rfl (by decide +kernel) rfl rfl (Nat.le_of_ble_eq_true rfl) d_U_init_45 (fun H locs hP hD hS => ?_)
  have hP : va_P D vwCl [(a, .inr (0, [.ref b0, .ref b1, .ref b2, .ref b3, .null, .null, .null, .null, .null, .int 0, .int 0])), (b0, .inr (2, [.ref r0, .int 0, .int 0])), (r0, .inl (c0, 512, .inl (fun _ => (0 : Int32)))), (b1, .inr (2, [.ref r1, .int 0, .int 0])), (r1, .inl (c1, 512, .inl (fun _ => (0 : Int32)))), (b2, .inr (2, [.ref r2, .int 0, .int 0])), (r2, .inl (c2, 512, .inl (fun _ => (0 : Int32)))), (b3, .inr (2, [.ref r3, .int 0, .int 0])), (r3, .inl (c3, 512, .inl (fun _ => (0 : Int32))))] H := hP
  have hD : va_D (va_A (unN a) s.heap.size) [(a, .inr (0, [.ref b0, .ref b1, .ref b2, .ref b3, .null, .null, .null, .null, .null, .int 0, .int 0])), (b0, .inr (2, [.ref r0, .int 0, .int 0])), (r0, .inl (c0, 512, .inl (fun _ => (0 : Int32)))), (b1, .inr (2, [.ref r1, .int 0, .int 0])), (r1, .inl (c1, 512, .inl (fun _ => (0 : Int32)))), (b2, .inr (2, [.ref r2, .int 0, .int 0])), (r2, .inl (c2, 512, .inl (fun _ => (0 : Int32)))), (b3, .inr (2, [.ref r3, .int 0, .int 0])), (r3, .inl (c3, 512, .inl (fun _ => (0 : Int32))))] := hD
  have hK : va_K D vwCl [(c0, .int), (c1, .int), (c2, .int), (c3, .int)] s := hK
  refine lv_aload_n hx hb d_U_init_48 rfl (lv_at hl 0 rfl) ?_
  refine nBig hx hb hml hown hts kB_U7 k_U_9 hK hP hD hS hA hl.1 ⟨by decide, by decide⟩ (by decide) (by decide) d_U_init_49 d_U_init_52 d_U_init_53 (Nat.le_of_ble_eq_true rfl) (fun b4 r4 c4 H locs hK hP hD hS => ?_)
  refine va_putF (D := D) (ci := 0) (v := .ref b4) (ty := .object "UnitFinder$Big") (C := R_U) (T := F_U) (N := 11) hx hb hts in_U t_U t_U_ok n_U hown hK hP hD hS 0 rfl rfl 4 (by decide) (hts _ k_U_25) (fun _ h9 => h9) rfl hin rfl (by decide +kernel) rfl rfl (Nat.le_of_ble_eq_true rfl) d_U_init_56 (fun H locs hP hD hS => ?_)
  have hP : va_P D vwCl [(a, .inr (0, [.ref b0, .ref b1, .ref b2, .ref b3, .ref b4, .null, .null, .null, .null, .int 0, .int 0])), (b0, .inr (2, [.ref r0, .int 0, .int 0])), (r0, .inl (c0, 512, .inl (fun _ => (0 : Int32)))), (b1, .inr (2, [.ref r1, .int 0, .int 0])), (r1, .inl (c1, 512, .inl (fun _ => (0 : Int32)))), (b2, .inr (2, [.ref r2, .int 0, .int 0])), (r2, .inl (c2, 512, .inl (fun _ => (0 : Int32)))), (b3, .inr (2, [.ref r3, .int 0, .int 0])), (r3, .inl (c3, 512, .inl (fun _ => (0 : Int32)))), (b4, .inr (2, [.ref r4, .int 0, .int 0])), (r4, .inl (c4, 512, .inl (fun _ => (0 : Int32))))] H := hP
  have hD : va_D (va_A (unN a) s.heap.size) [(a, .inr (0, [.ref b0, .ref b1, .ref b2, .ref b3, .ref b4, .null, .null, .null, .null, .int 0, .int 0])), (b0, .inr (2, [.ref r0, .int 0, .int 0])), (r0, .inl (c0, 512, .inl (fun _ => (0 : Int32)))), (b1, .inr (2, [.ref r1, .int 0, .int 0])), (r1, .inl (c1, 512, .inl (fun _ => (0 : Int32)))), (b2, .inr (2, [.ref r2, .int 0, .int 0])), (r2, .inl (c2, 512, .inl (fun _ => (0 : Int32)))), (b3, .inr (2, [.ref r3, .int 0, .int 0])), (r3, .inl (c3, 512, .inl (fun _ => (0 : Int32)))), (b4, .inr (2, [.ref r4, .int 0, .int 0])), (r4, .inl (c4, 512, .inl (fun _ => (0 : Int32))))] := hD
  have hK : va_K D vwCl [(c0, .int), (c1, .int), (c2, .int), (c3, .int), (c4, .int)] s := hK
  refine lv_aload_n hx hb d_U_init_59 rfl (lv_at hl 0 rfl) ?_
  refine nBig hx hb hml hown hts kB_U7 k_U_9 hK hP hD hS hA hl.1 ⟨by decide, by decide⟩ (by decide) (by decide) d_U_init_60 d_U_init_63 d_U_init_64 (Nat.le_of_ble_eq_true rfl) (fun b5 r5 c5 H locs hK hP hD hS => ?_)
  refine va_putF (D := D) (ci := 0) (v := .ref b5) (ty := .object "UnitFinder$Big") (C := R_U) (T := F_U) (N := 11) hx hb hts in_U t_U t_U_ok n_U hown hK hP hD hS 0 rfl rfl 5 (by decide) (hts _ k_U_28) (fun _ h9 => h9) rfl hin rfl (by decide +kernel) rfl rfl (Nat.le_of_ble_eq_true rfl) d_U_init_67 (fun H locs hP hD hS => ?_)
  have hP : va_P D vwCl [(a, .inr (0, [.ref b0, .ref b1, .ref b2, .ref b3, .ref b4, .ref b5, .null, .null, .null, .int 0, .int 0])), (b0, .inr (2, [.ref r0, .int 0, .int 0])), (r0, .inl (c0, 512, .inl (fun _ => (0 : Int32)))), (b1, .inr (2, [.ref r1, .int 0, .int 0])), (r1, .inl (c1, 512, .inl (fun _ => (0 : Int32)))), (b2, .inr (2, [.ref r2, .int 0, .int 0])), (r2, .inl (c2, 512, .inl (fun _ => (0 : Int32)))), (b3, .inr (2, [.ref r3, .int 0, .int 0])), (r3, .inl (c3, 512, .inl (fun _ => (0 : Int32)))), (b4, .inr (2, [.ref r4, .int 0, .int 0])), (r4, .inl (c4, 512, .inl (fun _ => (0 : Int32)))), (b5, .inr (2, [.ref r5, .int 0, .int 0])), (r5, .inl (c5, 512, .inl (fun _ => (0 : Int32))))] H := hP
  have hD : va_D (va_A (unN a) s.heap.size) [(a, .inr (0, [.ref b0, .ref b1, .ref b2, .ref b3, .ref b4, .ref b5, .null, .null, .null, .int 0, .int 0])), (b0, .inr (2, [.ref r0, .int 0, .int 0])), (r0, .inl (c0, 512, .inl (fun _ => (0 : Int32)))), (b1, .inr (2, [.ref r1, .int 0, .int 0])), (r1, .inl (c1, 512, .inl (fun _ => (0 : Int32)))), (b2, .inr (2, [.ref r2, .int 0, .int 0])), (r2, .inl (c2, 512, .inl (fun _ => (0 : Int32)))), (b3, .inr (2, [.ref r3, .int 0, .int 0])), (r3, .inl (c3, 512, .inl (fun _ => (0 : Int32)))), (b4, .inr (2, [.ref r4, .int 0, .int 0])), (r4, .inl (c4, 512, .inl (fun _ => (0 : Int32)))), (b5, .inr (2, [.ref r5, .int 0, .int 0])), (r5, .inl (c5, 512, .inl (fun _ => (0 : Int32))))] := hD
  have hK : va_K D vwCl [(c0, .int), (c1, .int), (c2, .int), (c3, .int), (c4, .int), (c5, .int)] s := hK
  refine lv_aload_n hx hb d_U_init_70 rfl (lv_at hl 0 rfl) ?_
  refine nBig hx hb hml hown hts kB_U7 k_U_9 hK hP hD hS hA hl.1 ⟨by decide, by decide⟩ (by decide) (by decide) d_U_init_71 d_U_init_74 d_U_init_75 (Nat.le_of_ble_eq_true rfl) (fun b6 r6 c6 H locs hK hP hD hS => ?_)
  refine va_putF (D := D) (ci := 0) (v := .ref b6) (ty := .object "UnitFinder$Big") (C := R_U) (T := F_U) (N := 11) hx hb hts in_U t_U t_U_ok n_U hown hK hP hD hS 0 rfl rfl 6 (by decide) (hts _ k_U_31) (fun _ h9 => h9) rfl hin rfl (by decide +kernel) rfl rfl (Nat.le_of_ble_eq_true rfl) d_U_init_78 (fun H locs hP hD hS => ?_)
  have hP : va_P D vwCl [(a, .inr (0, [.ref b0, .ref b1, .ref b2, .ref b3, .ref b4, .ref b5, .ref b6, .null, .null, .int 0, .int 0])), (b0, .inr (2, [.ref r0, .int 0, .int 0])), (r0, .inl (c0, 512, .inl (fun _ => (0 : Int32)))), (b1, .inr (2, [.ref r1, .int 0, .int 0])), (r1, .inl (c1, 512, .inl (fun _ => (0 : Int32)))), (b2, .inr (2, [.ref r2, .int 0, .int 0])), (r2, .inl (c2, 512, .inl (fun _ => (0 : Int32)))), (b3, .inr (2, [.ref r3, .int 0, .int 0])), (r3, .inl (c3, 512, .inl (fun _ => (0 : Int32)))), (b4, .inr (2, [.ref r4, .int 0, .int 0])), (r4, .inl (c4, 512, .inl (fun _ => (0 : Int32)))), (b5, .inr (2, [.ref r5, .int 0, .int 0])), (r5, .inl (c5, 512, .inl (fun _ => (0 : Int32)))), (b6, .inr (2, [.ref r6, .int 0, .int 0])), (r6, .inl (c6, 512, .inl (fun _ => (0 : Int32))))] H := hP
  have hD : va_D (va_A (unN a) s.heap.size) [(a, .inr (0, [.ref b0, .ref b1, .ref b2, .ref b3, .ref b4, .ref b5, .ref b6, .null, .null, .int 0, .int 0])), (b0, .inr (2, [.ref r0, .int 0, .int 0])), (r0, .inl (c0, 512, .inl (fun _ => (0 : Int32)))), (b1, .inr (2, [.ref r1, .int 0, .int 0])), (r1, .inl (c1, 512, .inl (fun _ => (0 : Int32)))), (b2, .inr (2, [.ref r2, .int 0, .int 0])), (r2, .inl (c2, 512, .inl (fun _ => (0 : Int32)))), (b3, .inr (2, [.ref r3, .int 0, .int 0])), (r3, .inl (c3, 512, .inl (fun _ => (0 : Int32)))), (b4, .inr (2, [.ref r4, .int 0, .int 0])), (r4, .inl (c4, 512, .inl (fun _ => (0 : Int32)))), (b5, .inr (2, [.ref r5, .int 0, .int 0])), (r5, .inl (c5, 512, .inl (fun _ => (0 : Int32)))), (b6, .inr (2, [.ref r6, .int 0, .int 0])), (r6, .inl (c6, 512, .inl (fun _ => (0 : Int32))))] := hD
  have hK : va_K D vwCl [(c0, .int), (c1, .int), (c2, .int), (c3, .int), (c4, .int), (c5, .int), (c6, .int)] s := hK
  refine lv_aload_n hx hb d_U_init_81 rfl (lv_at hl 0 rfl) ?_
  refine nBig hx hb hml hown hts kB_U7 k_U_9 hK hP hD hS hA hl.1 ⟨by decide, by decide⟩ (by decide) (by decide) d_U_init_82 d_U_init_85 d_U_init_86 (Nat.le_of_ble_eq_true rfl) (fun b7 r7 c7 H locs hK hP hD hS => ?_)
  refine va_putF (D := D) (ci := 0) (v := .ref b7) (ty := .object "UnitFinder$Big") (C := R_U) (T := F_U) (N := 11) hx hb hts in_U t_U t_U_ok n_U hown hK hP hD hS 0 rfl rfl 7 (by decide) (hts _ k_U_34) (fun _ h9 => h9) rfl hin rfl (by decide +kernel) rfl rfl (Nat.le_of_ble_eq_true rfl) d_U_init_89 (fun H locs hP hD hS => ?_)
  have hP : va_P D vwCl [(a, .inr (0, [.ref b0, .ref b1, .ref b2, .ref b3, .ref b4, .ref b5, .ref b6, .ref b7, .null, .int 0, .int 0])), (b0, .inr (2, [.ref r0, .int 0, .int 0])), (r0, .inl (c0, 512, .inl (fun _ => (0 : Int32)))), (b1, .inr (2, [.ref r1, .int 0, .int 0])), (r1, .inl (c1, 512, .inl (fun _ => (0 : Int32)))), (b2, .inr (2, [.ref r2, .int 0, .int 0])), (r2, .inl (c2, 512, .inl (fun _ => (0 : Int32)))), (b3, .inr (2, [.ref r3, .int 0, .int 0])), (r3, .inl (c3, 512, .inl (fun _ => (0 : Int32)))), (b4, .inr (2, [.ref r4, .int 0, .int 0])), (r4, .inl (c4, 512, .inl (fun _ => (0 : Int32)))), (b5, .inr (2, [.ref r5, .int 0, .int 0])), (r5, .inl (c5, 512, .inl (fun _ => (0 : Int32)))), (b6, .inr (2, [.ref r6, .int 0, .int 0])), (r6, .inl (c6, 512, .inl (fun _ => (0 : Int32)))), (b7, .inr (2, [.ref r7, .int 0, .int 0])), (r7, .inl (c7, 512, .inl (fun _ => (0 : Int32))))] H := hP
  have hD : va_D (va_A (unN a) s.heap.size) [(a, .inr (0, [.ref b0, .ref b1, .ref b2, .ref b3, .ref b4, .ref b5, .ref b6, .ref b7, .null, .int 0, .int 0])), (b0, .inr (2, [.ref r0, .int 0, .int 0])), (r0, .inl (c0, 512, .inl (fun _ => (0 : Int32)))), (b1, .inr (2, [.ref r1, .int 0, .int 0])), (r1, .inl (c1, 512, .inl (fun _ => (0 : Int32)))), (b2, .inr (2, [.ref r2, .int 0, .int 0])), (r2, .inl (c2, 512, .inl (fun _ => (0 : Int32)))), (b3, .inr (2, [.ref r3, .int 0, .int 0])), (r3, .inl (c3, 512, .inl (fun _ => (0 : Int32)))), (b4, .inr (2, [.ref r4, .int 0, .int 0])), (r4, .inl (c4, 512, .inl (fun _ => (0 : Int32)))), (b5, .inr (2, [.ref r5, .int 0, .int 0])), (r5, .inl (c5, 512, .inl (fun _ => (0 : Int32)))), (b6, .inr (2, [.ref r6, .int 0, .int 0])), (r6, .inl (c6, 512, .inl (fun _ => (0 : Int32)))), (b7, .inr (2, [.ref r7, .int 0, .int 0])), (r7, .inl (c7, 512, .inl (fun _ => (0 : Int32))))] := hD
  have hK : va_K D vwCl [(c0, .int), (c1, .int), (c2, .int), (c3, .int), (c4, .int), (c5, .int), (c6, .int), (c7, .int)] s := hK
  refine lv_aload_n hx hb d_U_init_92 rfl (lv_at hl 0 rfl) ?_
  refine va_new (ci := 1) (fs := [.null, .null, .long 0, .long 0, .long 0, .long 0]) (C := R_K) (T := F_K) (N := 6) hx hb hts in_K t_K t_K_ok hown (hts _ kK_U37) (hts _ i_K) (hts _ q_in_K) hK hP hD hS hA rfl (fun j hj => by rcases (show j = 0 ∨ j = 1 ∨ j = 2 ∨ j = 3 ∨ j = 4 ∨ j = 5 by omega) with rfl | rfl | rfl | rfl | rfl | rfl <;> rfl) (by decide) (by decide) d_U_init_93 (fun k H hP hD hS => ?_)
  refine lv_dup hx hb d_U_init_96 rfl ?_
  have hFc := va_freeS (b := kN k) hD hS hA
  refine va_callv (va_runI (As := []) (rest := [.ref k, .ref a]) ⟨hx, hb, hml, hown, hts⟩ (c_Kinit l D k H.size) (cwI 0 hts (zgood w_K_init_co) rfl rfl rfl (hts _ q_in_K) (hts _ k_U_39) (hts _ w_K_init_im) rfl (by decide +kernel) ⟨Nat.le_of_ble_eq_true rfl, Nat.le_of_ble_eq_true rfl⟩) ⟨nIn_blind, fun U hU hW => ⟨rfl, by rw [hU], by rw [hU]; exact va_suf hP, va_K.moved hW.alike (hK.sub (tys' := []) [] rfl), (va_sufD hD).weaken (fun _ _ _ _ => trivial)⟩⟩ rfl rfl hl.1 rfl (lv_room (Nat.le_of_ble_eq_true rfl)) d_U_init_97 ⟨by decide, by decide⟩) hS (fun q _ h => hFc q h) hFc (fun u t H1 locs ht hvm hw hB hz1 hk1 hS => ?_)
  obtain ⟨hP1, hK1, hD1⟩ := hB
  rw [ht] at hP1
  obtain ⟨hP, hD⟩ := va_grow hP hD hk1 hFc hP1 hD1
  have hK := hK.app (va_K.moved hvm.symm hK1)
  obtain ⟨bb, rr, cc9⟩ := u
  have hP : va_P D vwCl [(a, .inr (0, [.ref b0, .ref b1, .ref b2, .ref b3, .ref b4, .ref b5, .ref b6, .ref b7, .null, .int 0, .int 0])), (b0, .inr (2, [.ref r0, .int 0, .int 0])), (r0, .inl (c0, 512, .inl (fun _ => (0 : Int32)))), (b1, .inr (2, [.ref r1, .int 0, .int 0])), (r1, .inl (c1, 512, .inl (fun _ => (0 : Int32)))), (b2, .inr (2, [.ref r2, .int 0, .int 0])), (r2, .inl (c2, 512, .inl (fun _ => (0 : Int32)))), (b3, .inr (2, [.ref r3, .int 0, .int 0])), (r3, .inl (c3, 512, .inl (fun _ => (0 : Int32)))), (b4, .inr (2, [.ref r4, .int 0, .int 0])), (r4, .inl (c4, 512, .inl (fun _ => (0 : Int32)))), (b5, .inr (2, [.ref r5, .int 0, .int 0])), (r5, .inl (c5, 512, .inl (fun _ => (0 : Int32)))), (b6, .inr (2, [.ref r6, .int 0, .int 0])), (r6, .inl (c6, 512, .inl (fun _ => (0 : Int32)))), (b7, .inr (2, [.ref r7, .int 0, .int 0])), (r7, .inl (c7, 512, .inl (fun _ => (0 : Int32)))), (k, .inr (1, [.ref (bb 0), .ref (bb 1), .long 0, .long 0, .long 0, .long 0])), (bb 0, .inr (2, [.ref (rr 0), .int 0, .int 0])), (rr 0, .inl (cc9 0, 512, .inl (fun _ => (0 : Int32)))), (bb 1, .inr (2, [.ref (rr 1), .int 0, .int 0])), (rr 1, .inl (cc9 1, 512, .inl (fun _ => (0 : Int32))))] H1 := hP
  have hD : va_D (va_A (unN a) s.heap.size) [(a, .inr (0, [.ref b0, .ref b1, .ref b2, .ref b3, .ref b4, .ref b5, .ref b6, .ref b7, .null, .int 0, .int 0])), (b0, .inr (2, [.ref r0, .int 0, .int 0])), (r0, .inl (c0, 512, .inl (fun _ => (0 : Int32)))), (b1, .inr (2, [.ref r1, .int 0, .int 0])), (r1, .inl (c1, 512, .inl (fun _ => (0 : Int32)))), (b2, .inr (2, [.ref r2, .int 0, .int 0])), (r2, .inl (c2, 512, .inl (fun _ => (0 : Int32)))), (b3, .inr (2, [.ref r3, .int 0, .int 0])), (r3, .inl (c3, 512, .inl (fun _ => (0 : Int32)))), (b4, .inr (2, [.ref r4, .int 0, .int 0])), (r4, .inl (c4, 512, .inl (fun _ => (0 : Int32)))), (b5, .inr (2, [.ref r5, .int 0, .int 0])), (r5, .inl (c5, 512, .inl (fun _ => (0 : Int32)))), (b6, .inr (2, [.ref r6, .int 0, .int 0])), (r6, .inl (c6, 512, .inl (fun _ => (0 : Int32)))), (b7, .inr (2, [.ref r7, .int 0, .int 0])), (r7, .inl (c7, 512, .inl (fun _ => (0 : Int32)))), (k, .inr (1, [.ref (bb 0), .ref (bb 1), .long 0, .long 0, .long 0, .long 0])), (bb 0, .inr (2, [.ref (rr 0), .int 0, .int 0])), (rr 0, .inl (cc9 0, 512, .inl (fun _ => (0 : Int32)))), (bb 1, .inr (2, [.ref (rr 1), .int 0, .int 0])), (rr 1, .inl (cc9 1, 512, .inl (fun _ => (0 : Int32))))] := hD
  have hK : va_K D vwCl [(c0, .int), (c1, .int), (c2, .int), (c3, .int), (c4, .int), (c5, .int), (c6, .int), (c7, .int), (cc9 0, .int), (cc9 1, .int)] s := hK
  refine va_putF (D := D) (ci := 0) (v := .ref k) (ty := .object "UnitFinder$Recurrence") (C := R_U) (T := F_U) (N := 11) hx hb hts in_U t_U t_U_ok n_U hown hK hP hD hS 0 rfl rfl 8 (by decide) (hts _ k_U_40) (fun _ h9 => h9) rfl hin rfl (by decide +kernel) rfl rfl (Nat.le_of_ble_eq_true rfl) d_U_init_100 (fun H locs hP hD hS => ?_)
  have hP : va_P D vwCl [(a, .inr (0, [.ref b0, .ref b1, .ref b2, .ref b3, .ref b4, .ref b5, .ref b6, .ref b7, .ref k, .int 0, .int 0])), (b0, .inr (2, [.ref r0, .int 0, .int 0])), (r0, .inl (c0, 512, .inl (fun _ => (0 : Int32)))), (b1, .inr (2, [.ref r1, .int 0, .int 0])), (r1, .inl (c1, 512, .inl (fun _ => (0 : Int32)))), (b2, .inr (2, [.ref r2, .int 0, .int 0])), (r2, .inl (c2, 512, .inl (fun _ => (0 : Int32)))), (b3, .inr (2, [.ref r3, .int 0, .int 0])), (r3, .inl (c3, 512, .inl (fun _ => (0 : Int32)))), (b4, .inr (2, [.ref r4, .int 0, .int 0])), (r4, .inl (c4, 512, .inl (fun _ => (0 : Int32)))), (b5, .inr (2, [.ref r5, .int 0, .int 0])), (r5, .inl (c5, 512, .inl (fun _ => (0 : Int32)))), (b6, .inr (2, [.ref r6, .int 0, .int 0])), (r6, .inl (c6, 512, .inl (fun _ => (0 : Int32)))), (b7, .inr (2, [.ref r7, .int 0, .int 0])), (r7, .inl (c7, 512, .inl (fun _ => (0 : Int32)))), (k, .inr (1, [.ref (bb 0), .ref (bb 1), .long 0, .long 0, .long 0, .long 0])), (bb 0, .inr (2, [.ref (rr 0), .int 0, .int 0])), (rr 0, .inl (cc9 0, 512, .inl (fun _ => (0 : Int32)))), (bb 1, .inr (2, [.ref (rr 1), .int 0, .int 0])), (rr 1, .inl (cc9 1, 512, .inl (fun _ => (0 : Int32))))] H := hP
  have hD : va_D (va_A (unN a) s.heap.size) [(a, .inr (0, [.ref b0, .ref b1, .ref b2, .ref b3, .ref b4, .ref b5, .ref b6, .ref b7, .ref k, .int 0, .int 0])), (b0, .inr (2, [.ref r0, .int 0, .int 0])), (r0, .inl (c0, 512, .inl (fun _ => (0 : Int32)))), (b1, .inr (2, [.ref r1, .int 0, .int 0])), (r1, .inl (c1, 512, .inl (fun _ => (0 : Int32)))), (b2, .inr (2, [.ref r2, .int 0, .int 0])), (r2, .inl (c2, 512, .inl (fun _ => (0 : Int32)))), (b3, .inr (2, [.ref r3, .int 0, .int 0])), (r3, .inl (c3, 512, .inl (fun _ => (0 : Int32)))), (b4, .inr (2, [.ref r4, .int 0, .int 0])), (r4, .inl (c4, 512, .inl (fun _ => (0 : Int32)))), (b5, .inr (2, [.ref r5, .int 0, .int 0])), (r5, .inl (c5, 512, .inl (fun _ => (0 : Int32)))), (b6, .inr (2, [.ref r6, .int 0, .int 0])), (r6, .inl (c6, 512, .inl (fun _ => (0 : Int32)))), (b7, .inr (2, [.ref r7, .int 0, .int 0])), (r7, .inl (c7, 512, .inl (fun _ => (0 : Int32)))), (k, .inr (1, [.ref (bb 0), .ref (bb 1), .long 0, .long 0, .long 0, .long 0])), (bb 0, .inr (2, [.ref (rr 0), .int 0, .int 0])), (rr 0, .inl (cc9 0, 512, .inl (fun _ => (0 : Int32)))), (bb 1, .inr (2, [.ref (rr 1), .int 0, .int 0])), (rr 1, .inl (cc9 1, 512, .inl (fun _ => (0 : Int32))))] := hD
  obtain ⟨z, ez⟩ : ∃ z : ZZ, z = (D, (fun j => ([a, k, b0, r0, b1, r1, b2, r2, b3, r3, b4, r4, b5, r5, b6, r6, b7, r7, bb 0, rr 0, bb 1, rr 1] : List Nat).getD j 0), (fun i => ([c0, c1, c2, c3, c4, c5, c6, c7, cc9 0, cc9 1] : List ClassId).getD i 0)) := ⟨_, rfl⟩
  have ezD : z.1 = D := by rw [ez]
  have ezA : mA z = a := by rw [ez]; rfl
  have hP9 : va_P z.1 vwCl (uw z g00) H := by
    rw [ez]
    exact hP.sub [0, 17, 1, 2, 3, 4, 5, 6, 7, 8, 9, 10, 11, 12, 13, 14, 15, 16, 18, 19, 20, 21] rfl
  have hD9 : va_D (va_A (unN a) s.heap.size) (uw z g00) := by
    rw [ez]
    exact hD.sub [0, 17, 1, 2, 3, 4, 5, 6, 7, 8, 9, 10, 11, 12, 13, 14, 15, 16, 18, 19, 20, 21] (by decide) rfl
  have hK9 : va_K z.1 vwCl (zty z) s := by
    rw [ez]
    exact hK
  have hAz : ∀ q, va_A (unN a) s.heap.size q → zA z s.heap.size q := by
    intro q h
    rcases h with ⟨j, e, h⟩ | h
    · have hj : j < 1 := (List.getElem?_eq_some_iff.mp h).1
      rw [show j = 0 by omega] at h
      cases h
      exact Or.inl ⟨0, by decide, ezA.symm⟩
    · exact Or.inr h
  have hU : Ws z g00 s.heap H locs s := ⟨hP9, hK9, hD9.weaken (fun _ q _ h => hAz _ h), hS.more hAz⟩
  have hzA := zA_A (sz := s.heap.size) hD9 hA
  refine lv_aload_n hx hb d_U_init_103 rfl (lv_at hl 0 rfl) ?_
  refine lv_bipush (v := -4) hx hb d_U_init_104 (by decide) ?_
  clear hP hD hK hP9 hK9 hP1 hK1 hD1 hS
  refine z_callv (z_run (b := mA z) (As := [.int (-4)]) (rest := []) hx hb hml hown hts hU hN (c_become l z _ g00 (d := -4) tk_m4) (w_U_become_cw hts k_U_44 rfl rfl ⟨Nat.le_of_ble_eq_true rfl, Nat.le_of_ble_eq_true rfl⟩) (z_recvM hU) rfl hl.1 (by rw [ezA]; rfl) (lv_room (Nat.le_of_ble_eq_true rfl)) d_U_init_106 ⟨Nat.le_refl _, Nat.le_refl _⟩) hU (fun g1 H locs hp hU => ?_)
  rw [show (-4 : Int32).toInt = -4 from rfl, show (-4 : Int) % 2 = 0 from rfl, show ((0 : Int) - -4) / 4 = 1 from rfl] at hp
  have hS := hU.2.2.2.more hzA
  exact W.vret hx hb hr (fun t ht hW => ⟨⟨(z, g1), rfl, ⟨ezD, ezA, hp⟩, by rw [ht]; exact hU.1, va_K.moved hW.alike hU.2.1, hU.2.2.1.weaken (fun _ q _ h => hzA _ h)⟩, hS.F ht⟩) hS.2.2 d_U_init_109
abbrev nM (a : Nat) : va_W := [(a, .inr (3, [.int 0, .long 0, .int 0, .int 0, .null, .long 0, .long 0, .long 0, .long 0]))]
abbrev h00 : SM := (0, -4, 0, 0, (fun _ => 0), (fun _ => 0))
theorem mw_at (z : YM) (g : SM) : ∀ k, k < 2 → ∃ e : va_E, (mw z g)[k]? = some (z.2.1 k, e)
  | 0, _ => ⟨_, rfl⟩
  | 1, _ => ⟨_, rfl⟩
theorem yA_A {z : YM} {g : SM} {sz : Nat} {A : Nat → Prop} (hD : va_D A (mw z g)) (hA : ∀ q, sz ≤ q → A q) : ∀ q, yA z sz q → A q := by
  intro q h
  rcases h with ⟨k, hk, rfl⟩ | h
  · obtain ⟨e, he⟩ := mw_at z g k hk
    exact hD.2 k _ he
  · exact hA q h
set_option maxHeartbeats 4000000 in
set_option maxRecDepth 100000 in
theorem c_Minit (l : Launch) (D : va_G) (a sz : Nat) (hnt : ∀ D, dOk D → NTok D) : Met l y_M_init (zw y_M_init b_M_init 1 none) { frames := 5, cells := 1, slots := 12100, locals := 131 } (va_Pc [.ref a] (nIn D (nM a) sz)) (va_Qv (fun u : YM × SM => u.1.1 = D ∧ oM u.1 = a ∧ u.2.1 = 0 ∧ mS u.2 (-4) 1 0 1) (fun u t => va_P u.1.1 vwCl (mw u.1 u.2) t.heap ∧ va_K u.1.1 vwCl (mty u.1) t ∧ va_D (va_A (nM a) sz) (mw u.1 u.2)) (va_A (nM a) sz)) 1 12100 (va_A (nM a) sz) := by
  refine Met.ofW (cc := b_M_init) (maxL := 1) (ret := none) (by decide) rfl ?_
  intro p e s m args below meth c s₁ B hml hv
  obtain ⟨rfl, rfl, hP, hK, hD0⟩ := hv
  have hts0 := atoms_spec (ws := zw y_M_init b_M_init 1 none) B.pre
  have hts : ∀ w ∈ zt, w.before ([Value.ref a] : List Value).toArray s = true := fun w hw => hts0 w (List.mem_cons_of_mem _ hw)
  have hown : s.vm.findClass y_M_init.cls = some m.cls := findClass_of_methodNamed B.named
  have hin : meth.name = "<init>" := (name_of_methodNamed B.named B.method).1
  have hx := B.exec
  have hb := B.bytes
  have hr := B.returns
  have hlocks := B.notSynchronized
  have hl := lv_entry [.ref a] (n := 1) (Nat.le_of_ble_eq_true rfl)
  rw [lg_entry_eq]
  have hD : va_D (va_A (nM a) s.heap.size) (nM a) := hD0.self
  have hS : va_S (va_A (nM a) s.heap.size) s.heap s.heap [] := va_S.rf
  have hA : ∀ q, s.heap.size ≤ q → va_A (nM a) s.heap.size q := fun q h => Or.inr h
  have hl : lv_has _ 1 [(0, .ref a)] := hl
  refine lv_aload_n hx hb d_M_init_0 rfl (lv_at hl 0 rfl) ?_
  refine W.objInit hx hb hown (hts _ k_M_1) (hts _ o_im) (hts _ o_co) rfl (hl.1.trans hml.symm) rfl d_M_init_1 (Nat.le_of_ble_eq_true rfl) (Nat.le_of_ble_eq_true rfl) ?_
  refine lv_aload_n hx hb d_M_init_4 rfl (lv_at hl 0 rfl) ?_
  refine lv_ldc2 (v := -4) hx hb hown (hts _ k_M_7) d_M_init_5 ?_
  refine va_put (D := D) (ci := 3) (v := .long (-4)) (ty := .long) (C := R_M) (T := F_M) (N := 9) hx hb hts in_M t_M t_M_ok n_M hown hK hP hD hS 0 rfl rfl 1 (by decide) (hts _ k_M_9) (fun _ h9 => h9) rfl (by decide +kernel) rfl rfl (Nat.le_of_ble_eq_true rfl) d_M_init_8 (fun H locs hP hD hS => ?_)
  refine lv_aload_n hx hb d_M_init_11 rfl (lv_at hl 0 rfl) ?_
  refine lv_sipush (v := 12100) hx hb d_M_init_12 (by decide) ?_
  refine va_newa (atype := .int) (ty := .int) (a0 := (12100, .inl (fun _ => (0 : Int32)))) hx hb (hts _ q_arrI) rfl hK hP hD hS hA (fun _ => rfl) (by decide) (N' := 12100) rfl (by decide) (by decide) (by decide) d_M_init_15 (fun r cA H hK hP hD hS => ?_)
  refine va_putF (D := D) (ci := 3) (v := .ref r) (ty := .array .int) (C := R_M) (T := F_M) (N := 9) hx hb hts in_M t_M t_M_ok n_M hown hK hP hD hS 0 rfl rfl 4 (by decide) (hts _ k_M_15) (fun _ h9 => h9) rfl hin rfl (by decide +kernel) rfl rfl (Nat.le_of_ble_eq_true rfl) d_M_init_17 (fun H locs hP hD hS => ?_)
  obtain ⟨z, ez⟩ : ∃ z : YM, z = (D, (fun j => if j = 0 then a else r), cA) := ⟨_, rfl⟩
  have ezD : z.1 = D := by rw [ez]
  have ezA : oM z = a := by rw [ez]; rfl
  have hP9 : va_P z.1 vwCl (mw z h00) H := by
    rw [ez]
    exact hP
  have hD9 : va_D (va_A (nM a) s.heap.size) (mw z h00) := by
    rw [ez]
    exact hD
  have hK9 : va_K z.1 vwCl (mty z) s := by
    rw [ez]
    exact hK
  have hAz : ∀ q, va_A (nM a) s.heap.size q → yA z s.heap.size q := by
    intro q h
    rcases h with ⟨j, e, h⟩ | h
    · have hj : j < 1 := (List.getElem?_eq_some_iff.mp h).1
      rw [show j = 0 by omega] at h
      cases h
      exact Or.inl ⟨0, by decide, ezA.symm⟩
    · exact Or.inr h
  have hU : Ms z h00 s.heap H locs s := ⟨hP9, hK9, hD9.weaken (fun _ q _ h => hAz _ h), hS.more hAz⟩
  have hzA := yA_A (sz := s.heap.size) hD9 hA
  refine lv_aload_n hx hb d_M_init_20 rfl (lv_at hl 0 rfl) ?_
  refine lv_ldc2 (v := -4) hx hb hown (hts _ k_M_7) d_M_init_21 ?_
  clear hP hD hK hP9 hK9 hS
  refine m_callv (m_run (b := oM z) (As := [.long (-4)]) (rest := []) hx hb hml hown hts hU (cm_begin l z _ h00 (d := -4) (v := -4) rfl tk_m4 hnt (fun _ _ => (by decide : wn 0 < 65536))) (w_M_begin_cw hts k_M_19 rfl rfl ⟨Nat.le_of_ble_eq_true rfl, Nat.le_of_ble_eq_true rfl⟩) (m_recv hU) rfl hl.1 (by rw [ezA]; rfl) (lv_room (Nat.le_of_ble_eq_true rfl)) d_M_init_24 ⟨Nat.le_refl _, Nat.le_refl _⟩) hU (fun g1 H locs hp hU => ?_)
  rw [show (-4 : Int) % 2 = 0 from rfl, show ((0 : Int) - -4) / 4 = 1 from rfl] at hp
  have hS := hU.2.2.2.more hzA
  exact W.vret hx hb hr (fun t ht hW => ⟨⟨(z, g1), rfl, ⟨ezD, ezA, hp.1, hp.2⟩, by rw [ht]; exact hU.1, va_K.moved hW.alike hU.2.1, hU.2.2.1.weaken (fun _ q _ h => hzA _ h)⟩, hS.F ht⟩) hS.2.2 d_M_init_27
