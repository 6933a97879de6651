theorem d_L_take_0 : decode b_L_take 0 = .ok (.aload_n 2, 1) := by decide +kernel
theorem d_L_take_1 : decode b_L_take 1 = .ok (.iconst 0, 1) := by decide +kernel
theorem d_L_take_2 : decode b_L_take 2 = .ok (.aload_n 0, 1) := by decide +kernel
theorem d_L_take_3 : decode b_L_take 3 = .ok (.iload_n 1, 1) := by decide +kernel
theorem d_L_take_4 : decode b_L_take 4 = .ok (.invokevirtual 7, 3) := by decide +kernel
theorem d_L_take_7 : decode b_L_take 7 = .ok (.i2l, 1) := by decide +kernel
theorem d_L_take_8 : decode b_L_take 8 = .ok (.lastore, 1) := by decide +kernel
theorem d_L_take_9 : decode b_L_take 9 = .ok (.goto 6, 3) := by decide +kernel
theorem d_L_take_12 : decode b_L_take 12 = .ok (.astore_n 3, 1) := by decide +kernel
theorem d_L_take_13 : decode b_L_take 13 = .ok (.iconst 1, 1) := by decide +kernel
theorem d_L_take_14 : decode b_L_take 14 = .ok (.ireturn, 1) := by decide +kernel
theorem d_L_take_15 : decode b_L_take 15 = .ok (.iconst 0, 1) := by decide +kernel
theorem d_L_take_16 : decode b_L_take 16 = .ok (.ireturn, 1) := by decide +kernel
theorem d_L_ask_0 : decode b_L_ask 0 = .ok (.aload_n 0, 1) := by decide +kernel
theorem d_L_ask_1 : decode b_L_ask 1 = .ok (.iload_n 1, 1) := by decide +kernel
theorem d_L_ask_2 : decode b_L_ask 2 = .ok (.iload_n 2, 1) := by decide +kernel
theorem d_L_ask_3 : decode b_L_ask 3 = .ok (.iload_n 3, 1) := by decide +kernel
theorem d_L_ask_4 : decode b_L_ask 4 = .ok (.invokevirtual 15, 3) := by decide +kernel
theorem d_L_ask_7 : decode b_L_ask 7 = .ok (.goto 7, 3) := by decide +kernel
theorem d_L_ask_10 : decode b_L_ask 10 = .ok (.astore 4, 2) := by decide +kernel
theorem d_L_ask_12 : decode b_L_ask 12 = .ok (.iconst 1, 1) := by decide +kernel
theorem d_L_ask_13 : decode b_L_ask 13 = .ok (.ireturn, 1) := by decide +kernel
theorem d_L_ask_14 : decode b_L_ask 14 = .ok (.iconst 0, 1) := by decide +kernel
theorem d_L_ask_15 : decode b_L_ask 15 = .ok (.ireturn, 1) := by decide +kernel
theorem d_L_power_0 : decode b_L_power 0 = .ok (.aload 4, 2) := by decide +kernel
theorem d_L_power_2 : decode b_L_power 2 = .ok (.iconst 0, 1) := by decide +kernel
theorem d_L_power_3 : decode b_L_power 3 = .ok (.aload_n 0, 1) := by decide +kernel
theorem d_L_power_4 : decode b_L_power 4 = .ok (.iload_n 1, 1) := by decide +kernel
theorem d_L_power_5 : decode b_L_power 5 = .ok (.iload_n 2, 1) := by decide +kernel
theorem d_L_power_6 : decode b_L_power 6 = .ok (.iload_n 3, 1) := by decide +kernel
theorem d_L_power_7 : decode b_L_power 7 = .ok (.invokevirtual 19, 3) := by decide +kernel
theorem d_L_power_10 : decode b_L_power 10 = .ok (.i2l, 1) := by decide +kernel
theorem d_L_power_11 : decode b_L_power 11 = .ok (.lastore, 1) := by decide +kernel
theorem d_L_power_12 : decode b_L_power 12 = .ok (.goto 7, 3) := by decide +kernel
theorem d_L_power_15 : decode b_L_power 15 = .ok (.astore 5, 2) := by decide +kernel
theorem d_L_power_17 : decode b_L_power 17 = .ok (.iconst 1, 1) := by decide +kernel
theorem d_L_power_18 : decode b_L_power 18 = .ok (.ireturn, 1) := by decide +kernel
theorem d_L_power_19 : decode b_L_power 19 = .ok (.iconst 0, 1) := by decide +kernel
theorem d_L_power_20 : decode b_L_power 20 = .ok (.ireturn, 1) := by decide +kernel
theorem d_L_sign_0 : decode b_L_sign 0 = .ok (.aload_n 2, 1) := by decide +kernel
theorem d_L_sign_1 : decode b_L_sign 1 = .ok (.iconst 0, 1) := by decide +kernel
theorem d_L_sign_2 : decode b_L_sign 2 = .ok (.aload_n 0, 1) := by decide +kernel
theorem d_L_sign_3 : decode b_L_sign 3 = .ok (.iload_n 1, 1) := by decide +kernel
theorem d_L_sign_4 : decode b_L_sign 4 = .ok (.invokevirtual 23, 3) := by decide +kernel
theorem d_L_sign_7 : decode b_L_sign 7 = .ok (.i2l, 1) := by decide +kernel
theorem d_L_sign_8 : decode b_L_sign 8 = .ok (.lastore, 1) := by decide +kernel
theorem d_L_sign_9 : decode b_L_sign 9 = .ok (.goto 6, 3) := by decide +kernel
theorem d_L_sign_12 : decode b_L_sign 12 = .ok (.astore_n 3, 1) := by decide +kernel
theorem d_L_sign_13 : decode b_L_sign 13 = .ok (.iconst 1, 1) := by decide +kernel
theorem d_L_sign_14 : decode b_L_sign 14 = .ok (.ireturn, 1) := by decide +kernel
theorem d_L_sign_15 : decode b_L_sign 15 = .ok (.iconst 0, 1) := by decide +kernel
theorem d_L_sign_16 : decode b_L_sign 16 = .ok (.ireturn, 1) := by decide +kernel
theorem d_L_bits_0 : decode b_L_bits 0 = .ok (.aload_n 2, 1) := by decide +kernel
theorem d_L_bits_1 : decode b_L_bits 1 = .ok (.iconst 0, 1) := by decide +kernel
theorem d_L_bits_2 : decode b_L_bits 2 = .ok (.aload_n 0, 1) := by decide +kernel
theorem d_L_bits_3 : decode b_L_bits 3 = .ok (.iload_n 1, 1) := by decide +kernel
theorem d_L_bits_4 : decode b_L_bits 4 = .ok (.invokevirtual 28, 3) := by decide +kernel
theorem d_L_bits_7 : decode b_L_bits 7 = .ok (.i2l, 1) := by decide +kernel
theorem d_L_bits_8 : decode b_L_bits 8 = .ok (.lastore, 1) := by decide +kernel
theorem d_L_bits_9 : decode b_L_bits 9 = .ok (.goto 6, 3) := by decide +kernel
theorem d_L_bits_12 : decode b_L_bits 12 = .ok (.astore_n 3, 1) := by decide +kernel
theorem d_L_bits_13 : decode b_L_bits 13 = .ok (.iconst 1, 1) := by decide +kernel
theorem d_L_bits_14 : decode b_L_bits 14 = .ok (.ireturn, 1) := by decide +kernel
theorem d_L_bits_15 : decode b_L_bits 15 = .ok (.iconst 0, 1) := by decide +kernel
theorem d_L_bits_16 : decode b_L_bits 16 = .ok (.ireturn, 1) := by decide +kernel
theorem d_L_word_0 : decode b_L_word 0 = .ok (.aload_n 3, 1) := by decide +kernel
theorem d_L_word_1 : decode b_L_word 1 = .ok (.iconst 0, 1) := by decide +kernel
theorem d_L_word_2 : decode b_L_word 2 = .ok (.aload_n 0, 1) := by decide +kernel
theorem d_L_word_3 : decode b_L_word 3 = .ok (.iload_n 1, 1) := by decide +kernel
theorem d_L_word_4 : decode b_L_word 4 = .ok (.iload_n 2, 1) := by decide +kernel
theorem d_L_word_5 : decode b_L_word 5 = .ok (.invokevirtual 31, 3) := by decide +kernel
theorem d_L_word_8 : decode b_L_word 8 = .ok (.i2l, 1) := by decide +kernel
theorem d_L_word_9 : decode b_L_word 9 = .ok (.lastore, 1) := by decide +kernel
theorem d_L_word_10 : decode b_L_word 10 = .ok (.goto 7, 3) := by decide +kernel
theorem d_L_word_13 : decode b_L_word 13 = .ok (.astore 4, 2) := by decide +kernel
theorem d_L_word_15 : decode b_L_word 15 = .ok (.iconst 1, 1) := by decide +kernel
theorem d_L_word_16 : decode b_L_word 16 = .ok (.ireturn, 1) := by decide +kernel
theorem d_L_word_17 : decode b_L_word 17 = .ok (.iconst 0, 1) := by decide +kernel
theorem d_L_word_18 : decode b_L_word 18 = .ok (.ireturn, 1) := by decide +kernel
theorem d_L_residue_0 : decode b_L_residue 0 = .ok (.aload_n 3, 1) := by decide +kernel
theorem d_L_residue_1 : decode b_L_residue 1 = .ok (.iconst 0, 1) := by decide +kernel
theorem d_L_residue_2 : decode b_L_residue 2 = .ok (.aload_n 0, 1) := by decide +kernel
theorem d_L_residue_3 : decode b_L_residue 3 = .ok (.iload_n 1, 1) := by decide +kernel
theorem d_L_residue_4 : decode b_L_residue 4 = .ok (.iload_n 2, 1) := by decide +kernel
theorem d_L_residue_5 : decode b_L_residue 5 = .ok (.invokevirtual 35, 3) := by decide +kernel
theorem d_L_residue_8 : decode b_L_residue 8 = .ok (.i2l, 1) := by decide +kernel
theorem d_L_residue_9 : decode b_L_residue 9 = .ok (.lastore, 1) := by decide +kernel
theorem d_L_residue_10 : decode b_L_residue 10 = .ok (.goto 11, 3) := by decide +kernel
theorem d_L_residue_13 : decode b_L_residue 13 = .ok (.astore 4, 2) := by decide +kernel
theorem d_L_residue_15 : decode b_L_residue 15 = .ok (.iconst 1, 1) := by decide +kernel
theorem d_L_residue_16 : decode b_L_residue 16 = .ok (.ireturn, 1) := by decide +kernel
theorem d_L_residue_17 : decode b_L_residue 17 = .ok (.astore 4, 2) := by decide +kernel
theorem d_L_residue_19 : decode b_L_residue 19 = .ok (.iconst 2, 1) := by decide +kernel
theorem d_L_residue_20 : decode b_L_residue 20 = .ok (.ireturn, 1) := by decide +kernel
theorem d_L_residue_21 : decode b_L_residue 21 = .ok (.iconst 0, 1) := by decide +kernel
theorem d_L_residue_22 : decode b_L_residue 22 = .ok (.ireturn, 1) := by decide +kernel
/-! THE LAW's WRAPPERS: the class's world and the row long[1] -/
abbrev ow (o : Nat) (cO : ClassId) (f : Nat → Int64) : va_W := [(o, .inl (cO, 1, .inr (.inl f)))]
def wA (z : ZZ) (o sz : Nat) : Nat → Prop := fun q => zA z sz q ∨ q = o
def zInj (z : ZZ) (o : Nat) : Prop := (∀ i j, i < 22 → j < 22 → z.2.1 i = z.2.1 j → i = j) ∧ ∀ i, i < 22 → z.2.1 i ≠ o
theorem zD_of {z : ZZ} {g : St} {A : Nat → Prop} (h : ∀ i j, i < 22 → j < 22 → z.2.1 i = z.2.1 j → i = j) (hA : ∀ i, i < 22 → A (z.2.1 i)) : va_D A (uw z g) :=
  ⟨fun i j p q hp hq e => by
    obtain ⟨a1, a2⟩ := uw_ad z g hp
    obtain ⟨b1, b2⟩ := uw_ad z g hq
    exact h i j a1 b1 (by rw [← a2, ← b2, e]), fun k q hk => by
    obtain ⟨a1, a2⟩ := uw_ad z g hk
    rw [a2]
    exact hA k a1⟩
theorem oD_of {o : Nat} {cO : ClassId} {f : Nat → Int64} {A : Nat → Prop} (hA : A o) : va_D A (ow o cO f) :=
  ⟨fun i j p q hp hq e => by
    have h1 : i < 1 := (List.getElem?_eq_some_iff.mp hp).1
    have h2 : j < 1 := (List.getElem?_eq_some_iff.mp hq).1
    omega, fun k q hk => by
    have h1 : k < 1 := (List.getElem?_eq_some_iff.mp hk).1
    rw [show k = 0 by omega] at hk
    cases hk
    exact hA⟩
theorem zoD_of {z : ZZ} {g : St} {o : Nat} {cO : ClassId} {f : Nat → Int64} {A : Nat → Prop} (h : zInj z o) (hA : ∀ i, i < 22 → A (z.2.1 i)) (hO : A o) : va_D A (uw z g ++ ow o cO f) :=
  va_D.app (zD_of h.1 hA) (oD_of hO) (fun i j p q hp hq e => by
    obtain ⟨a1, a2⟩ := uw_ad z g hp
    have h2 : j < 1 := (List.getElem?_eq_some_iff.mp hq).1
    rw [show j = 0 by omega] at hq
    cases hq
    exact h.2 i a1 (by rw [← a2]; exact e))
def wI (sa : Nat → Nat) (z : ZZ) (g : St) (o : Nat) (cO : ClassId) (f : Nat → Int64) (sz : Nat) (U : State) : Prop := U.heap.size = sz ∧ va_P z.1 vwCl (uw z g ++ ow o cO f) U.heap ∧ va_K z.1 vwCl (zty z ++ [(cO, .long)]) U ∧ zN U ∧ xN sa U ∧ xH (wA z o sz) U U.heap ∧ va_Nc E_A E_I U
theorem wI_blind {sa : Nat → Nat} {z : ZZ} {g : St} {o : Nat} {cO : ClassId} {f : Nat → Int64} {sz : Nat} {vs : List Value} : FrameBlind (va_Pc vs (wI sa z g o cO f sz)) := fun a U gg mk q => by
  obtain ⟨q0, q1, q2, q3, q4, q5, q6, q7⟩ := q
  exact ⟨q0, q1, q2, va_K.moved (u := U) (U := U.calling gg mk a) (Vm.Alike.refl U.vm) q3, zN.same rfl q4, xN.same (s := U) rfl q5, xH.moved (u := U) (U := U.calling gg mk a) (Vm.Alike.refl U.vm) q6, va_Nc.moved (u := U) (U := U.calling gg mk a) (Vm.Alike.refl U.vm) q7⟩
theorem wA_z {z : ZZ} {o sz : Nat} : ∀ q, zA z sz q → wA z o sz q := fun q h => Or.inl h
theorem w_ofW {l : Launch} {y : MethodName} {cc : ByteArray} {maxL : Nat} {hh : List (Nat × Nat × Nat × Nat)} {rm : Room} {sa : Nat → Nat} {z : ZZ} {g : St} {o : Nat} {cO : ClassId} {f : Nat → Int64} {sz : Nat} {vs : List Value} {Qc : Array Value → State → Outcome → State → Prop} (hy : plainName y.cls = true) (hlen : (lg_sl vs).length ≤ maxL)
    (body : ∀ (p : Program) (e : Env) (s : State) (m : MethodId) (below : List Frame) (meth : Method) (c : Code), p.tables.exec = Jvm.exec → c.code = cc → meth.sig.returnType = some .int → c.maxLocals = maxL → s.vm.findClass y.cls = some m.cls → (∀ w ∈ zt, w.before vs.toArray s = true) → meth.locks = false → c.exceptionTable.toList = tableOf hh → s.heap.size = sz → va_P z.1 vwCl (uw z g ++ ow o cO f) s.heap → va_K z.1 vwCl (zty z ++ [(cO, .long)]) s → zN s → xN sa s → xH (wA z o sz) s s.heap → va_Nc E_A E_I s →
      ∀ ls, lv_has ls maxL (lv_args 0 vs) → W p l e rm s m vs.toArray below meth c s.heap [] 0 0 (MQ below Qc vs.toArray s 1 6 (wA z o sz)) (F0 m 0 ls [])) :
    Met l y (Cond.codeWith y cc maxL (some .int) hh :: zt) rm (va_Pc vs (wI sa z g o cO f sz)) Qc 1 6 (wA z o sz) := by
  refine va_MetW (cc := cc) (maxL := maxL) (ret := some .int) (hh := hh) hy rfl ?_
  intro p e s m args below meth c s₁ B hml hv
  obtain ⟨rfl, hsz, hP, hK, hN, hX, hH, hC⟩ := hv
  have hts := atoms_spec (ws := Cond.codeWith y cc maxL (some .int) hh :: zt) B.pre
  have htab := vx_table (x := y) B (hts _ List.mem_cons_self)
  have hown : s.vm.findClass y.cls = some m.cls := findClass_of_methodNamed B.named
  have hl := lv_entry vs (n := maxL) hlen
  rw [lg_entry_eq]
  exact body p e s m below meth c B.exec B.bytes B.returns hml hown (fun w hw => hts w (List.mem_cons_of_mem _ hw)) B.notSynchronized htab hsz hP hK hN hX hH hC _ hl
section LRows
variable {p : Program} {l : Launch} {e : Env} {R : Room} {s : State} {m : MethodId} {args : Array Value} {below : List Frame} {meth : Method} {c : Code} {H H0 : Heap} {locs : List Loc} {cells slots : Nat} {Q : State → Prop} {cc : ByteArray} {pc : Nat} {ls : Array Slot} {st0 rest : List Value} {z : ZZ} {g : St} {a : Array Value} {A0 : Nat → Prop}
theorem w_run {own : String} {index maxL n nL : Nat} {y : MethodName} {bytes : ByteArray} {ret : Option FieldType} {rm : Room} {Qc : Array Value → State → Outcome → State → Prop} {As : List Value} (hx : p.tables.exec = Jvm.exec) (hb : c.code = cc) (hml : c.maxLocals = nL) (hown : s.vm.findClass own = some m.cls) (hts : ∀ w ∈ zt, w.before args s = true) (hP : va_P z.1 vwCl (uw z g) H) (hK : va_K z.1 vwCl (zty z) s) (hD : va_D (fun _ => True) (uw z g)) (hN : zN s)
    (hM : Met l y (zw y bytes maxL ret) rm (va_Pc (.ref (mA z) :: As) (zI z g H.size)) Qc 0 0 (zA z H.size)) (cw : CallW R s args own R_U index y bytes maxL ret (zw y bytes maxL ret) rm 0 0 n)
    (hn : As.length = n) (hsize : ls.size = nL) (hst : st0 = As.reverse ++ .ref (mA z) :: rest) (hW : 2 * (F0 m pc ls st0).monitorRoom + (rest.map fun v => v.category).sum ≤ 8) (hdg : decode cc pc = .ok (.invokevirtual index, 3)) (hf : cells + 0 ≤ R.cells ∧ slots + 0 ≤ R.slots) :
    va_Run p l e R s m args below meth c H locs cells slots 0 0 (F0 m pc ls st0) rest (Qc (Value.ref (mA z) :: As).toArray) (zA z H.size) :=
  va_runV ⟨hx, hb, hml, hown, hts⟩ hM cw ⟨z_blind, va_recv (ci := 0) (q0 := 0) hK hP rfl rfl, fun U hU hW => ⟨rfl, by rw [hU], by rw [hU]; exact hP, va_K.moved hW.alike hK, hD, hN.warm hW⟩⟩ rfl hn hsize hst hW hdg hf
theorem w_calli {post : Int32 → St → Prop} (hr : va_Run p l e R s m args below meth c H locs cells slots 0 0 (F0 m pc ls st0) rest (va_Qi post (zO z H.size) (zA z H.size) a) (zA z H.size)) (hS : va_S A0 H0 H locs) (hA : ∀ q, zA z H.size q → A0 q)
    (kk : ∀ (r : Int32) (g' : St) (H1 : Heap) (locs1 : List Loc), post r g' → va_P z.1 vwCl (uw z g') H1 → H.size ≤ H1.size → (∀ q : Nat, q < H.size → ¬ zA z H.size q → H1[q]? = H[q]?) → va_S A0 H0 H1 locs1 → W p l e R s m args below meth c H1 locs1 cells slots Q (F0 m (pc + 3) ls (.int r :: rest))) : W p l e R s m args below meth c H locs cells slots Q (F0 m pc ls st0) := by
  refine va_calli hr hS (fun q _ h => hA q h) hA (fun r u t H1 locs1 ht hvm hw hB hz1 hk1 hS => ?_)
  exact kk r u H1 locs1 hw (by rw [← ht]; exact hB.1) hz1 hk1 hS
theorem w_callv {post : St → Prop} (hr : va_Run p l e R s m args below meth c H locs cells slots 0 0 (F0 m pc ls st0) rest (va_Qv post (zO z H.size) (zA z H.size) a) (zA z H.size)) (hS : va_S A0 H0 H locs) (hA : ∀ q, zA z H.size q → A0 q)
    (kk : ∀ (g' : St) (H1 : Heap) (locs1 : List Loc), post g' → va_P z.1 vwCl (uw z g') H1 → H.size ≤ H1.size → (∀ q : Nat, q < H.size → ¬ zA z H.size q → H1[q]? = H[q]?) → va_S A0 H0 H1 locs1 → W p l e R s m args below meth c H1 locs1 cells slots Q (F0 m (pc + 3) ls rest)) : W p l e R s m args below meth c H locs cells slots Q (F0 m pc ls st0) := by
  refine va_callv hr hS (fun q _ h => hA q h) hA (fun u t H1 locs1 ht hvm hw hB hz1 hk1 hS => ?_)
  exact kk u H1 locs1 hw (by rw [← ht]; exact hB.1) hz1 hk1 hS
variable {o sz : Nat} {cO : ClassId} {f : Nat → Int64}
theorem w_iret {post : Int32 → St × (Nat → Int64) → Prop} {v : Int32} (hx : p.tables.exec = Jvm.exec) (hb : c.code = cc) (hr : meth.sig.returnType = some .int) (hlocks : meth.locks = false) (hP : va_P z.1 vwCl (uw z g ++ ow o cO f) H) (hS : va_S (wA z o sz) s.heap H locs) (hp : post v (g, f)) (hdg : decode cc pc = .ok (.ireturn, 1)) :
    W p l e R s m args below meth c H locs 1 6 (MQ below (va_Qi post (fun u t => va_P z.1 vwCl (uw z u.1 ++ ow o cO u.2) t.heap) (wA z o sz)) args s 1 6 (wA z o sz)) (F0 m pc ls [.int v]) :=
  W.iret hx hb hr (fun t ht hW => ⟨⟨v, (g, f), rfl, hp, by show va_P z.1 vwCl (uw z g ++ ow o cO f) t.heap; rw [ht]; exact hP⟩, hS.F ht⟩) hS.2.2 hdg
/-- the other row stays where a call has changed the class's world -/
theorem ow_kept {H1 : Heap} (hP : va_P z.1 vwCl (uw z g ++ ow o cO f) H) (hi : zInj z o) (hk : ∀ q : Nat, q < H.size → ¬ zA z H.size q → H1[q]? = H[q]?) {g' : St} (hP1 : va_P z.1 vwCl (uw z g') H1) : va_P z.1 vwCl (uw z g' ++ ow o cO f) H1 := by
  have h2 := va_suf hP
  have hlt : o < H.size := (h2 0 _ rfl).lt
  refine hP1.app (h2.kept (fun k q hq => ?_))
  have h1 : k < 1 := (List.getElem?_eq_some_iff.mp hq).1
  rw [show k = 0 by omega] at hq
  cases hq
  exact hk o hlt (fun h => h.elim (fun ⟨i, h3, h4⟩ => hi.2 i h3 h4.symm) (fun h => by omega))
/-- out[0] = the answer; 0 -/
theorem w_good {post : Int32 → St × (Nat → Int64) → Prop} {r : Int32} {tgt : Nat} {off : Int} (hx : p.tables.exec = Jvm.exec) (hb : c.code = cc) (hr : meth.sig.returnType = some .int) (hlocks : meth.locks = false) (hi : zInj z o) (hK : va_K z.1 vwCl (zty z ++ [(cO, .long)]) s) (hP : va_P z.1 vwCl (uw z g ++ ow o cO f) H) (hS : va_S (wA z o sz) s.heap H locs)
    (hp : post 0 (g, vp_updL f 0 r.toInt64)) (d0 : decode cc pc = .ok (.i2l, 1)) (d1 : decode cc (pc + 1) = .ok (.lastore, 1)) (d2 : decode cc (pc + 2) = .ok (.goto off, 3)) (ht : ((pc + 2 : Nat) : Int) + off = (tgt : Int)) (d3 : decode cc tgt = .ok (.iconst 0, 1)) (d4 : decode cc (tgt + 1) = .ok (.ireturn, 1)) :
    W p l e R s m args below meth c H locs 0 0 (MQ below (va_Qi post (fun u t => va_P z.1 vwCl (uw z u.1 ++ ow o cO u.2) t.heap) (wA z o sz)) args s 1 6 (wA z o sz)) (F0 m pc ls [.int r, .int 0, .ref o]) := by
  have hD : va_D (wA z o sz) (uw z g ++ ow o cO f) := zoD_of hi (fun i h => Or.inl (Or.inl ⟨i, h, rfl⟩)) (Or.inr rfl)
  refine lv_i2l hx hb d0 rfl ?_
  refine va_last (D := z.1) (i := 0) hx hb hK hP hD hS 22 10 rfl rfl (by show ¬ ((0 : Int32) < 0 ∨ 1 ≤ Int32.toNatClampNeg 0); decide) d1 (fun H1 locs1 hP1 hD1 hS1 => ?_)
  refine lv_goto (tgt := tgt) hx hb d2 ht ?_
  refine lv_iconst (v := 0) hx hb d3 (by decide) ?_
  refine W.widen (k := 1) (n := 6) (by decide) (by decide) ?_
  exact w_iret hx hb hr hlocks (f := vp_updL f 0 r.toInt64) hP1 hS1 hp d4
end LRows
theorem xc_A : Cond.castable E_A E_A ∈ xB := by decide +kernel
theorem xc_I : Cond.castable E_I E_I ∈ xB := by decide +kernel
theorem kL_A : Cond.classLink R_L 13 E_A ∈ zt := by decide +kernel
theorem kL_I : Cond.classLink R_L 26 E_I ∈ zt := by decide +kernel
theorem xc_use {sa : Nat → Nat} {s : State} {w : Cond} (h : xN sa s) (hw : w ∈ xB) {A : Array Value} : w.before A s = true := va_tabs (xB_t w hw) rfl (h.1 w hw)
