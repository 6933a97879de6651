/-! CONSTRUCTORS OF Big AND Recurrence -/
theorem o_im : Cond.instanceMethod Lib.objectInit ∈ zt := by decide +kernel
theorem o_co : Cond.code Lib.objectInit ⟨#[0xb1]⟩ 1 none ∈ zt := by decide +kernel
theorem kB_U7 : Cond.classLink R_U 7 R_B ∈ zt := by decide +kernel
theorem kB_K9 : Cond.classLink R_K 9 R_B ∈ zt := by decide +kernel
theorem kK_U37 : Cond.classLink R_U 37 R_K ∈ zt := by decide +kernel
theorem i_B : Cond.instantiable R_B 3 ∈ zt := by decide +kernel
theorem i_K : Cond.instantiable R_K 6 ∈ zt := by decide +kernel
theorem va_pre {D : va_G} {cl : List vw_C} {a b : va_W} {H : Heap} (h : va_P D cl (a ++ b) H) : va_P D cl a H := fun k q hk => h k q (by rw [List.getElem?_append_left (List.getElem?_eq_some_iff.mp hk).1]; exact hk)
theorem va_suf {D : va_G} {cl : List vw_C} {a b : va_W} {H : Heap} (h : va_P D cl (a ++ b) H) : va_P D cl b H := fun k q hk => h (a.length + k) q (by rw [List.getElem?_append_right (Nat.le_add_right _ _), Nat.add_sub_cancel_left]; exact hk)
theorem va_preD {A : Nat → Prop} {a b : va_W} (h : va_D A (a ++ b)) : va_D A a := by
  have e : ∀ (k : Nat) (q : Nat × va_E), a[k]? = some q → (a ++ b)[k]? = some q := fun k q hk => by rw [List.getElem?_append_left (List.getElem?_eq_some_iff.mp hk).1]; exact hk
  exact ⟨fun i j p q hp hq w => h.1 i j p q (e i p hp) (e j q hq) w, fun k q hk => h.2 k q (e k q hk)⟩
theorem va_sufD {A : Nat → Prop} {a b : va_W} (h : va_D A (a ++ b)) : va_D A b := by
  have e : ∀ (k : Nat) (q : Nat × va_E), b[k]? = some q → (a ++ b)[a.length + k]? = some q := fun k q hk => by rw [List.getElem?_append_right (Nat.le_add_right _ _), Nat.add_sub_cancel_left]; exact hk
  exact ⟨fun i j p q hp hq w => by have := h.1 _ _ p q (e i p hp) (e j q hq) w; omega, fun k q hk => h.2 _ q (e k q hk)⟩
/-- behind a call on b: a stands, b's new world stands beside it -/
theorem va_grow {A0 : Nat → Prop} {D : va_G} {cl : List vw_C} {a b w1 : va_W} {H H1 : Heap} (hP : va_P D cl (a ++ b) H) (hD : va_D A0 (a ++ b)) (hk : ∀ q : Nat, q < H.size → ¬ va_A b H.size q → H1[q]? = H[q]?) (hF : ∀ q, va_A b H.size q → A0 q) (hP1 : va_P D cl w1 H1) (hD1 : va_D (va_A b H.size) w1) : va_P D cl (a ++ w1) H1 ∧ va_D A0 (a ++ w1) := by
  have hPa := va_pre hP
  have apart : ∀ (k : Nat) (q : Nat × va_E), a[k]? = some q → q.1 < H.size ∧ ¬ va_A b H.size q.1 := by
    intro k q hq
    have hl := (hPa k q hq).lt
    refine ⟨hl, fun h => ?_⟩
    rcases h with ⟨k2, e, h⟩ | h
    · have hka := (List.getElem?_eq_some_iff.mp hq).1
      have e1 : (a ++ b)[k]? = some q := by rw [List.getElem?_append_left hka]; exact hq
      have e2 : (a ++ b)[a.length + k2]? = some (q.1, e) := by rw [List.getElem?_append_right (Nat.le_add_right _ _), Nat.add_sub_cancel_left]; exact h
      have := hD.1 _ _ q (q.1, e) e1 e2 rfl
      omega
    · omega
  refine ⟨va_P.app (hPa.kept (fun k q hq => hk q.1 (apart k q hq).1 (apart k q hq).2)) hP1, va_D.app (va_preD hD) (hD1.weaken (fun k q _ h => hF q.1 h)) (fun i j x y hx hy hxy => ?_)⟩
  exact (apart i x hx).2 (by rw [hxy]; exact hD1.2 j y hy)
theorem va_freeS {A0 : Nat → Prop} {a b : va_W} {H0 H : Heap} {locs : List Loc} (hD : va_D A0 (a ++ b)) (hS : va_S A0 H0 H locs) (hA : ∀ q, H0.size ≤ q → A0 q) : ∀ q, va_A b H.size q → A0 q := by
  intro q h
  rcases h with ⟨k, e, h⟩ | h
  · exact (va_sufD hD).2 k (q, e) h
  · exact hA q (Nat.le_trans hS.1 h)
abbrev bigN (a : Nat) : va_W := [(a, .inr (2, [.null, .int 0, .int 0]))]
abbrev bigW (a r : Nat) (cA : ClassId) : va_W := [(a, .inr (2, [.ref r, .int 0, .int 0])), (r, .inl (cA, 512, .inl (fun _ => (0 : Int32))))]
def nIn (D : va_G) (w : va_W) (sz : Nat) (U : State) : Prop := U.heap.size = sz ∧ va_P D vwCl w U.heap ∧ va_K D vwCl [] U ∧ va_D (fun _ => True) w
theorem nIn_blind {D : va_G} {w : va_W} {sz : Nat} {vs : List Value} : FrameBlind (va_Pc vs (nIn D w sz)) := fun a U g mk q => by
  obtain ⟨q0, q1, qP, qK, qD⟩ := q
  exact ⟨q0, q1, qP, va_K.moved (u := U) (U := U.calling g mk a) (Vm.Alike.refl U.vm) qK, qD⟩
set_option maxHeartbeats 4000000 in
set_option maxRecDepth 100000 in
theorem c_Binit (l : Launch) (D : va_G) (a sz : Nat) : Met l y_B_init (zw y_B_init b_B_init 1 none) { frames := 1, cells := 1, slots := 512, locals := 12 } (va_Pc [.ref a] (nIn D (bigN a) sz)) (va_Qv (fun _ : Nat × ClassId => True) (fun u t => va_P D vwCl (bigW a u.1 u.2) t.heap ∧ va_K D vwCl [(u.2, .int)] t ∧ va_D (va_A (bigN a) sz) (bigW a u.1 u.2)) (va_A (bigN a) sz)) 1 512 (va_A (bigN a) sz) := by
  refine Met.ofW (cc := b_B_init) (maxL := 1) (ret := none) (by decide) rfl ?_
  intro p e s m args below meth c s₁ B hml hv
  obtain ⟨rfl, rfl, hP, hK, hD0⟩ := hv
  have hts0 := atoms_spec (ws := zw y_B_init b_B_init 1 none) B.pre
  have hts : ∀ w ∈ zt, w.before ([Value.ref a] : List Value).toArray s = true := fun w hw => hts0 w (List.mem_cons_of_mem _ hw)
  have hown : s.vm.findClass y_B_init.cls = some m.cls := findClass_of_methodNamed B.named
  have hin : meth.name = "<init>" := (name_of_methodNamed B.named B.method).1
  have hx := B.exec
  have hb := B.bytes
  have hr := B.returns
  have hlocks := B.notSynchronized
  have hl := lv_entry [.ref a] (n := 1) (Nat.le_of_ble_eq_true rfl)
  rw [lg_entry_eq]
  have hD : va_D (va_A (bigN a) s.heap.size) (bigN a) := hD0.self
  have hS : va_S (va_A (bigN a) s.heap.size) s.heap s.heap [] := va_S.rf
  have hA : ∀ q, s.heap.size ≤ q → va_A (bigN a) s.heap.size q := fun q h => Or.inr h
  refine lv_aload_n hx hb d_B_init_0 rfl (lv_at hl 0 rfl) ?_
  refine W.objInit hx hb hown (hts _ k_B_3) (hts _ o_im) (hts _ o_co) rfl (hl.1.trans hml.symm) rfl d_B_init_1 (Nat.le_of_ble_eq_true rfl) (Nat.le_of_ble_eq_true rfl) ?_
  refine lv_aload_n hx hb d_B_init_4 rfl (lv_at hl 0 rfl) ?_
  refine lv_sipush (v := 512) hx hb d_B_init_5 (by decide) ?_
  refine va_newa (atype := .int) (ty := .int) (a0 := (512, .inl (fun _ => (0 : Int32)))) hx hb (hts _ q_arrI) rfl hK hP hD hS hA (fun _ => rfl) (by decide) (N' := 512) rfl (by decide) (Nat.le_refl _) (Nat.le_refl _) d_B_init_8 (fun r cA H hK hP hD hS => ?_)
  refine va_putF (D := D) (ci := 2) (v := .ref r) (ty := .array .int) (C := R_B) (T := F_B) (N := 3) hx hb hts in_B t_B t_B_ok n_B hown hK hP hD hS 0 rfl rfl 0 (by decide) (hts _ k_B_9) (fun _ h9 => h9) rfl hin rfl (by decide +kernel) rfl rfl (Nat.le_of_ble_eq_true rfl) d_B_init_10 (fun H locs hP hD hS => ?_)
  exact W.vret hx hb hr (fun t ht hW => ⟨⟨(r, cA), rfl, trivial, by rw [ht]; exact hP, va_K.moved hW.alike hK, hD⟩, hS.F ht⟩) hS.2.2 d_B_init_13
section Ctor
variable {p : Program} {l : Launch} {e : Env} {R : Room} {s : State} {m : MethodId} {args : Array Value} {below : List Frame} {meth : Method} {c : Code} {H H0 : Heap} {locs : List Loc} {cells slots : Nat} {Q : State → Prop} {cc : ByteArray} {pc : Nat} {ls : Array Slot} {rest : List Value} {D : va_G} {ws : va_W} {tys : List (ClassId × FieldType)} {A : Nat → Prop}
/-- new Big() -/
theorem nBig {own : String} {ik ic nL : Nat} (hx : p.tables.exec = Jvm.exec) (hb : c.code = cc) (hml : c.maxLocals = nL) (hown : s.vm.findClass own = some m.cls) (hts : ∀ w ∈ zt, w.before args s = true) (hk : Cond.classLink own ik R_B ∈ zt) (hl9 : Cond.methodLink own ic y_B_init ∈ zt)
    (hK : va_K D vwCl tys s) (hP : va_P D vwCl ws H) (hD : va_D A ws) (hS : va_S A H0 H locs) (hA : ∀ q, H0.size ≤ q → A q) (hsize : ls.size = nL) (hR : 2 ≤ R.frames ∧ 32 ≤ R.locals) (hc : cells + 2 ≤ R.cells) (hs : slots + 515 ≤ R.slots)
    (d0 : decode cc pc = .ok (.new ik, 3)) (d3 : decode cc (pc + 3) = .ok (.dup, 1)) (d4 : decode cc (pc + 4) = .ok (.invokespecial ic, 3)) (hrest : (rest.map fun v => v.category).sum ≤ 6)
    (kk : ∀ (b r : Nat) (cA : ClassId) (H1 : Heap) (locs1 : List Loc), va_K D vwCl (tys ++ [(cA, .int)]) s → va_P D vwCl (ws ++ bigW b r cA) H1 → va_D A (ws ++ bigW b r cA) → va_S A H0 H1 locs1 → W p l e R s m args below meth c H1 locs1 (cells + 2) (slots + 515) Q (F0 m (pc + 7) ls (.ref b :: rest))) :
    W p l e R s m args below meth c H locs cells slots Q (F0 m pc ls rest) := by
  refine va_new (ci := 2) (fs := [.null, .int 0, .int 0]) (C := R_B) (T := F_B) (N := 3) hx hb hts in_B t_B t_B_ok hown (hts _ hk) (hts _ i_B) (hts _ q_in_B) hK hP hD hS hA rfl (fun j hj => by rcases (show j = 0 ∨ j = 1 ∨ j = 2 by omega) with rfl | rfl | rfl <;> rfl) (by omega) (by omega) d0 (fun b H hP hD hS => ?_)
  refine lv_dup hx hb d3 rfl ?_
  have hFc := va_freeS (b := bigN b) hD hS hA
  refine va_callv (va_runI (As := []) (rest := .ref b :: rest) ⟨hx, hb, hml, hown, hts⟩ (c_Binit l D b H.size) (cwI 0 hts (zgood w_B_init_co) rfl rfl rfl (hts _ q_in_B) (hts _ hl9) (hts _ w_B_init_im) rfl (by decide +kernel) ⟨hR.1, hR.2⟩) ⟨nIn_blind, fun U hU hW => ⟨rfl, by rw [hU], by rw [hU]; exact va_suf hP, va_K.moved hW.alike (hK.sub (tys' := []) [] rfl), (va_sufD hD).weaken (fun _ _ _ _ => trivial)⟩⟩ rfl rfl hsize rfl (lv_room (by rw [List.map_cons, List.sum_cons]; show 1 + (rest.map fun v => v.category).sum ≤ 8; omega)) d4 ⟨by omega, by omega⟩) hS (fun q _ h => hFc q h) hFc (fun u t H1 locs ht hvm hw hB hz1 hk1 hS => ?_)
  obtain ⟨hP1, hK1, hD1⟩ := hB
  rw [ht] at hP1
  obtain ⟨hP2, hD2⟩ := va_grow hP hD hk1 hFc hP1 hD1
  exact kk b u.1 u.2 H1 locs (hK.app (va_K.moved hvm.symm hK1)) hP2 hD2 hS
end Ctor
abbrev kN (k : Nat) : va_W := [(k, .inr (1, [.null, .null, .long 0, .long 0, .long 0, .long 0]))]
abbrev kW (k : Nat) (b r : Nat → Nat) (cA : Nat → ClassId) : va_W := (k, .inr (1, [.ref (b 0), .ref (b 1), .long 0, .long 0, .long 0, .long 0])) :: (bigW (b 0) (r 0) (cA 0) ++ bigW (b 1) (r 1) (cA 1))
set_option maxHeartbeats 4000000 in
set_option maxRecDepth 100000 in
theorem c_Kinit (l : Launch) (D : va_G) (a sz : Nat) : Met l y_K_init (zw y_K_init b_K_init 1 none) { frames := 2, cells := 4, slots := 1030, locals := 32 } (va_Pc [.ref a] (nIn D (kN a) sz)) (va_Qv (fun _ : (Nat → Nat) × (Nat → Nat) × (Nat → ClassId) => True) (fun u t => va_P D vwCl (kW a u.1 u.2.1 u.2.2) t.heap ∧ va_K D vwCl [(u.2.2 0, .int), (u.2.2 1, .int)] t ∧ va_D (va_A (kN a) sz) (kW a u.1 u.2.1 u.2.2)) (va_A (kN a) sz)) 4 1030 (va_A (kN a) sz) := by
  refine Met.ofW (cc := b_K_init) (maxL := 1) (ret := none) (by decide) rfl ?_
  intro p e s m args below meth c s₁ B hml hv
  obtain ⟨rfl, rfl, hP, hK, hD0⟩ := hv
  have hts0 := atoms_spec (ws := zw y_K_init b_K_init 1 none) B.pre
  have hts : ∀ w ∈ zt, w.before ([Value.ref a] : List Value).toArray s = true := fun w hw => hts0 w (List.mem_cons_of_mem _ hw)
  have hown : s.vm.findClass y_K_init.cls = some m.cls := findClass_of_methodNamed B.named
  have hin : meth.name = "<init>" := (name_of_methodNamed B.named B.method).1
  have hx := B.exec
  have hb := B.bytes
  have hr := B.returns
  have hlocks := B.notSynchronized
  have hl := lv_entry [.ref a] (n := 1) (Nat.le_of_ble_eq_true rfl)
  rw [lg_entry_eq]
  have hD : va_D (va_A (kN a) s.heap.size) (kN a) := hD0.self
  have hS : va_S (va_A (kN a) s.heap.size) s.heap s.heap [] := va_S.rf
  have hA : ∀ q, s.heap.size ≤ q → va_A (kN a) s.heap.size q := fun q h => Or.inr h
  refine lv_aload_n hx hb d_K_init_0 rfl (lv_at hl 0 rfl) ?_
  refine W.objInit hx hb hown (hts _ k_K_3) (hts _ o_im) (hts _ o_co) rfl (hl.1.trans hml.symm) rfl d_K_init_1 (Nat.le_of_ble_eq_true rfl) (Nat.le_of_ble_eq_true rfl) ?_
  refine lv_aload_n hx hb d_K_init_4 rfl (lv_at hl 0 rfl) ?_
  refine nBig hx hb hml hown hts kB_K9 k_K_11 hK hP hD hS hA hl.1 ⟨Nat.le_refl _, Nat.le_refl _⟩ (by decide) (by decide) d_K_init_5 d_K_init_8 d_K_init_9 (Nat.le_of_ble_eq_true rfl) (fun b0 r0 cA0 H locs hK hP hD hS => ?_)
  refine va_putF (D := D) (ci := 1) (v := .ref b0) (ty := .object "UnitFinder$Big") (C := R_K) (T := F_K) (N := 6) hx hb hts in_K t_K t_K_ok n_K hown hK hP hD hS 0 rfl rfl 0 (by decide) (hts _ k_K_12) (fun _ h9 => h9) rfl hin rfl (by decide +kernel) rfl rfl (Nat.le_of_ble_eq_true rfl) d_K_init_12 (fun H locs hP hD hS => ?_)
  refine lv_aload_n hx hb d_K_init_15 rfl (lv_at hl 0 rfl) ?_
  refine nBig hx hb hml hown hts kB_K9 k_K_11 hK hP hD hS hA hl.1 ⟨Nat.le_refl _, Nat.le_refl _⟩ (by decide) (by decide) d_K_init_16 d_K_init_19 d_K_init_20 (Nat.le_of_ble_eq_true rfl) (fun b1 r1 cA1 H locs hK hP hD hS => ?_)
  refine va_putF (D := D) (ci := 1) (v := .ref b1) (ty := .object "UnitFinder$Big") (C := R_K) (T := F_K) (N := 6) hx hb hts in_K t_K t_K_ok n_K hown hK hP hD hS 0 rfl rfl 1 (by decide) (hts _ k_K_18) (fun _ h9 => h9) rfl hin rfl (by decide +kernel) rfl rfl (Nat.le_of_ble_eq_true rfl) d_K_init_23 (fun H locs hP hD hS => ?_)
  exact W.vret hx hb hr (fun t ht hW => ⟨⟨(fun k => if k = 0 then b0 else b1, fun k => if k = 0 then r0 else r1, fun k => if k = 0 then cA0 else cA1), rfl, trivial, by rw [ht]; exact hP, va_K.moved hW.alike hK, hD⟩, hS.F ht⟩) hS.2.2 d_K_init_26
