/-! WHERE THE CLASS THROWS -/
abbrev E_A : String := "java/lang/IllegalArgumentException"
abbrev E_I : String := "java/lang/IndexOutOfBoundsException"
def xNm : List String := ["java/lang/RuntimeException", "java/lang/Exception"]
/-- the words of the two throws that the tables decide but that aren't good ones -/
def xB : List Cond := (vx_atS R_U 56 E_A xNm).filter (fun w => !goodWord w) ++ (vx_atS R_U 117 E_I xNm).filter (fun w => !goodWord w)
theorem xB_t : ∀ w ∈ xB, w.onTables = true := by decide +kernel
theorem xB_w : ∀ w ∈ xB, w.warmB w.codeNames = true := by decide +kernel
theorem xA_g : ∀ w ∈ (vx_atS R_U 56 E_A xNm).filter goodWord, w ∈ zt := by decide +kernel
theorem xI_g : ∀ w ∈ (vx_atS R_U 117 E_I xNm).filter goodWord, w ∈ zt := by decide +kernel
theorem xA_o : ∀ w ∈ Cond.classLink R_U 52 E_A :: Cond.initialized E_A :: vx_atS R_U 56 E_A xNm, vx_ot w = true := by decide +kernel
theorem xI_o : ∀ w ∈ Cond.classLink R_U 113 E_I :: Cond.initialized E_I :: vx_atS R_U 117 E_I xNm, vx_ot w = true := by decide +kernel
theorem xA_k : Cond.classLink R_U 52 E_A ∈ zt := by decide +kernel
theorem xA_i : Cond.initialized E_A ∈ zt := by decide +kernel
theorem xI_k : Cond.classLink R_U 113 E_I ∈ zt := by decide +kernel
theorem xI_i : Cond.initialized E_I ∈ zt := by decide +kernel
theorem xNm_f : ∀ n ∈ xNm, Bundle.fit n = true := by decide +kernel
/-- the texts -/
def xS (sa : Nat → Nat) (U : State) : Prop := vk_R R_U 54 "D can't be taken" (sa 0) U ∧ vk_R R_U 79 "a coefficient is too large" (sa 1) U ∧ vk_R R_U 83 "not a form of discriminant D" (sa 2) U ∧ vk_R R_U 89 "not a primitive form" (sa 3) U ∧ vk_R R_U 95 "no such power" (sa 4) U ∧ vk_R R_U 115 "no such word" (sa 5) U ∧ vk_R R_U 122 "m is below 1" (sa 6) U ∧ vk_R R_U 124 "no such number" (sa 7) U
def xH (A : Nat → Prop) (U : State) (H : Heap) : Prop := vx_Zq Bundle.tN "UNASSIGNED_STACK" Bundle.steD A U H ∧ vx_Zq Bundle.tN "SUPPRESSED_SENTINEL" Bundle.listD A U H
def xN (sa : Nat → Nat) (U : State) : Prop := (∀ w ∈ xB, w.before #[] U = true) ∧ xS sa U
def xI (sa : Nat → Nat) (z : ZZ) (g : St) (sz : Nat) (U : State) : Prop := zI z g sz U ∧ xN sa U ∧ xH (zA z sz) U U.heap
/-- what stands after a throw -/
def xO (z : ZZ) (sz : Nat) (X : String) (E : String) (g : St) (t : State) : Prop := E = X ∧ zO z sz g t
theorem xS.warm {sa : Nat → Nat} {s U : State} (hW : s.WarmedH U.vm) (h : xS sa s) : xS sa U := by
  obtain ⟨h0, h1, h2, h3, h4, h5, h6, h7⟩ := h
  exact ⟨h0.warm hW, h1.warm hW, h2.warm hW, h3.warm hW, h4.warm hW, h5.warm hW, h6.warm hW, h7.warm hW⟩
theorem xS.same {sa : Nat → Nat} {s U : State} (e : U.vm = s.vm) (h : xS sa s) : xS sa U := by
  obtain ⟨h0, h1, h2, h3, h4, h5, h6, h7⟩ := h
  exact ⟨h0.same e, h1.same e, h2.same e, h3.same e, h4.same e, h5.same e, h6.same e, h7.same e⟩
theorem xN.warm {sa : Nat → Nat} {s U : State} (hW : s.WarmedH U.vm) (h : xN sa s) : xN sa U := ⟨fun w hw => va_tabs (xB_t w hw) (u := s.setVm U.vm) rfl (Cond.pre_warmed hW (xB_w w hw) (h.1 w hw)), h.2.warm hW⟩
theorem xN.same {sa : Nat → Nat} {s U : State} (e : U.vm = s.vm) (h : xN sa s) : xN sa U := ⟨fun w hw => va_tabs (xB_t w hw) e.symm (h.1 w hw), h.2.same e⟩
theorem xH.moved {A : Nat → Prop} {u U : State} {H : Heap} (hvm : u.vm.Alike U.vm) (h : xH A u H) : xH A U H := ⟨h.1.moved hvm, h.2.moved hvm⟩
theorem xH.kept {A : Nat → Prop} {U : State} {H H1 : Heap} (h : xH A U H) (hq : ∀ a : Nat, a < H.size → ¬ A a → H1[a]? = H[a]?) : xH A U H1 := ⟨h.1.kept hq, h.2.kept hq⟩
theorem xH.narrow {A B : Nat → Prop} {U : State} {H : Heap} (h : xH A U H) (hAB : ∀ q, B q → A q) : xH B U H := ⟨h.1.narrow hAB, h.2.narrow hAB⟩
theorem x_blind {sa : Nat → Nat} {z : ZZ} {g : St} {sz : Nat} {vs : List Value} : FrameBlind (va_Pc vs (xI sa z g sz)) := fun a U gg mk q => by
  obtain ⟨q0, q1, q2, q3⟩ := q
  obtain ⟨r0, r1⟩ := z_blind (vs := vs) a U gg mk ⟨q0, q1⟩
  exact ⟨q0, r1, xN.same (s := U) rfl q2, xH.moved (u := U) (U := U.calling gg mk a) (Vm.Alike.refl U.vm) q3⟩
theorem x_ofW {l : Launch} {y : MethodName} {cc : ByteArray} {maxL : Nat} {ret : Option FieldType} {rm : Room} {sa : Nat → Nat} {z : ZZ} {g : St} {sz : Nat} {vs : List Value} {XC : String → State → State → Prop} (hy : plainName y.cls = true) (hlen : (lg_sl vs).length ≤ maxL)
    (body : ∀ (p : Program) (e : Env) (s : State) (m : MethodId) (below : List Frame) (meth : Method) (c : Code), p.tables.exec = Jvm.exec → c.code = cc → c.maxLocals = maxL → s.vm.findClass y.cls = some m.cls → (∀ w ∈ zt, w.before vs.toArray s = true) → meth.locks = false → s.heap.size = sz → zN s → xN sa s → xH (zA z sz) s s.heap → (∀ x ∈ c.exceptionTable.toList, False) →
      ∀ ls, Ws z g s.heap s.heap [] s → lv_has ls maxL (lv_args 0 vs) → W p l e rm s m vs.toArray below meth c s.heap [] 0 0 (vx_MQ below (fun _ _ _ _ => False) XC vs.toArray s 1 6 (zA z sz)) (F0 m 0 ls [])) :
    vx_Met l y (zw y cc maxL ret) rm (va_Pc vs (xI sa z g sz)) (fun _ _ _ _ => False) XC 1 6 (zA z sz) := by
  refine vx_ofW (cc := cc) (maxL := maxL) (ret := ret) hy rfl ?_
  intro p e s m args below meth c s₁ B hml ht hv
  obtain ⟨rfl, ⟨hsz, hP, hK, hD0, hN⟩, hX, hH⟩ := hv
  have hts := atoms_spec (ws := zw y cc maxL ret) B.pre
  have hown : s.vm.findClass y.cls = some m.cls := findClass_of_methodNamed B.named
  have hl := lv_entry vs (n := maxL) hlen
  rw [lg_entry_eq]
  exact body p e s m below meth c B.exec B.bytes hml hown (fun w hw => hts w (List.mem_cons_of_mem _ hw)) B.notSynchronized hsz hN hX hH ht _ ⟨hP, hK, zD_self hD0, va_S.rf⟩ hl
section XRows
variable {p : Program} {l : Launch} {e : Env} {R : Room} {s : State} {m : MethodId} {args : Array Value} {below : List Frame} {meth : Method} {c : Code} {H H0 : Heap} {locs : List Loc} {cells slots : Nat} {Q : State → Prop} {cc : ByteArray} {pc : Nat} {ls : Array Slot} {st0 rest : List Value} {z : ZZ} {g : St}
theorem x_throw {X text : String} {ik is ic sa' sz : Nat} {sa : Nat → Nat} (hx : p.tables.exec = Jvm.exec) (hb : c.code = cc) (hlt : l.stackTraces = false) (hown : s.vm.findClass R_U = some m.cls) (hts : ∀ w ∈ zt, w.before args s = true)
    (hfit : Bundle.fit X = true) (hk : Cond.classLink R_U ik X ∈ zt) (hini : Cond.initialized X ∈ zt) (hg : ∀ w ∈ (vx_atS R_U ic X xNm).filter goodWord, w ∈ zt) (hbad : ∀ w ∈ (vx_atS R_U ic X xNm).filter (fun w => !goodWord w), w ∈ xB)
    (ho : ∀ w ∈ Cond.classLink R_U ik X :: Cond.initialized X :: vx_atS R_U ic X xNm, vx_ot w = true)
    (hX : xN sa s) (hH : xH (zA z sz) s s.heap) (hstr : vk_R R_U is text sa' s) (hsz : s.heap.size = sz) (hU : Ws z g s.heap H locs s) (hsize : ls.size = c.maxLocals)
    (d0 : decode cc pc = .ok (.new ik, 3)) (d3 : decode cc (pc + 3) = .ok (.dup, 1)) (d4 : decode cc (pc + 4) = .ok (.ldc is, 2)) (d6 : decode cc (pc + 6) = .ok (.invokespecial ic, 3)) (d9 : decode cc (pc + 9) = .ok (.athrow, 1))
    (ht : ∀ x ∈ c.exceptionTable.toList, False) (hlocks : meth.locks = false) (hRf : 5 < R.frames) (hRl : 82 ≤ R.locals) (hRc : 1 ≤ R.cells) (hRs : 6 ≤ R.slots) :
    W p l e R s m args below meth c H locs 0 0 (vx_MQ below (fun _ _ _ _ => False) (vx_X (fun u : St => u = g) (xO z sz X) (zA z sz)) args s 1 6 (zA z sz)) (F0 m pc ls []) := by
  subst hsz
  refine vx_throwS (A := zA z s.heap.size) hx hb hlt hown hfit xNm_f (hts _ hk) (hts _ hini) hstr (vx_hat (B := xB) (fun w hw => hts w (hg w hw)) hbad (fun w hw => va_tabs (xB_t w hw) rfl (hX.1 w hw))) ho hH.1 hH.2 hU.2.2.2 hsize d0 d3 d4 d6 d9 (fun x h => (ht x h).elim) hRf hRl hRc hRs hlocks (fun t hvm hle hkp => ?_) hU.2.2.2.2.2 (Nat.le_refl _) (Nat.le_refl _)
  refine ⟨g, rfl, ⟨rfl, hU.1.kept (fun k q hq => hkp _ (vx_lt hU.1 hq)), va_K.moved hvm hU.2.1, hU.2.2.1⟩, ⟨Nat.le_trans hU.2.2.2.1 hle, fun q h1 h2 => ?_⟩⟩
  rw [hkp q (Nat.lt_of_lt_of_le h1 hU.2.2.2.1)]
  exact hU.2.2.2.2.1 q h1 h2
/-- a call that throws, seen from the caller -/
theorem x_call {own : String} {index maxL n nL mc ms : Nat} {y : MethodName} {bytes : ByteArray} {ret : Option FieldType} {rm : Room} {sa : Nat → Nat} {As : List Value} {X : String} {A0 : Nat → Prop} (hx : p.tables.exec = Jvm.exec) (hb : c.code = cc) (hml : c.maxLocals = nL) (hown : s.vm.findClass own = some m.cls) (hts : ∀ w ∈ zt, w.before args s = true)
    (hP : va_P z.1 vwCl (uw z g) H) (hK : va_K z.1 vwCl (zty z) s) (hD : va_D A0 (uw z g)) (hN : zN s) (hX : xN sa s) (hH : xH (zA z H.size) s H) (hS : va_S A0 H0 H locs) (hA : ∀ q, q < H.size → zA z H.size q → A0 q) (hA2 : ∀ q, zA z H.size q → A0 q)
    (hM : vx_Met l y (zw y bytes maxL ret) rm (va_Pc (.ref (mA z) :: As) (xI sa z g H.size)) (fun _ _ _ _ => False) (vx_X (fun u : St => u = g) (xO z H.size X) (zA z H.size)) mc ms (zA z H.size)) (cw : CallW R s args own R_U index y bytes maxL ret (zw y bytes maxL ret) rm mc ms n)
    (hn : As.length = n) (hsize : ls.size = nL) (hst : st0 = As.reverse ++ .ref (mA z) :: rest) (hW : 2 * (F0 m pc ls st0).monitorRoom + (rest.map fun v => v.category).sum ≤ 8) (hdg : decode cc pc = .ok (.invokevirtual index, 3)) (hf : cells + mc ≤ R.cells ∧ slots + ms ≤ R.slots)
    (kx : ∀ (ce : Cell) (q9 : Addr) (H1 : Heap) (locs1 : List Loc), va_P z.1 vwCl (uw z g) H1 → H.size ≤ H1.size → (∀ q : Nat, q < H.size → ¬ zA z H.size q → H1[q]? = H[q]?) → va_S A0 H0 H1 locs1 → H1[q9]? = some ce → ce.vm = .none → s.vm.findClass X = some ce.cls → vx_W p l e R s m args below meth c H1 locs1 (cells + mc) (slots + ms) Q (F0 m pc ls rest) q9) :
    W p l e R s m args below meth c H locs cells slots Q (F0 m pc ls st0) := by
  have hv : ∃ cell : Cell, H[mA z]? = some cell ∧ cell.vm.isStatics = false ∧ s.vm.findClass R_U = some cell.cls := va_recv (ci := 0) (q0 := 0) hK hP rfl rfl
  have hr : vx_Run p l e R s m args below meth c H locs cells slots mc ms (F0 m pc ls st0) rest (fun _ _ _ => False) (vx_X (fun u : St => u = g) (xO z H.size X) (zA z H.size)) (zA z H.size) :=
    vx_runV ⟨hx, hb, hml, hown, hts⟩ hM cw ⟨x_blind, hv, fun U hH9 hW9 => ⟨rfl, ⟨by rw [hH9], by rw [hH9]; exact hP, va_K.moved hW9.alike hK, ⟨hD.1, fun _ _ _ => trivial⟩, hN.warm hW9⟩, hX.warm hW9, by rw [hH9]; exact hH.moved hW9.alike⟩⟩ rfl hn hsize hst hW hdg hf
  intro T hT Y
  rcases hr T hT Y with ⟨v, st₀, t, T', L, h0, X', hL, e1, e2, hF, st⟩ | ⟨q, st₀, t, T', L, E, ce, h0, X', hL, e1, e2, ⟨u, rfl, ⟨rfl, hb9, -, -⟩, hF⟩, hce, hcv, hcl, st⟩
  · exact hF.elim
  · obtain ⟨k1, k2, k3⟩ := vx_keep h0 e1 hS hA hA2 hL hF
    obtain ⟨t2, a1, b1⟩ := kx ce q T'.heap (locs ++ L) (by rw [e1]; exact hb9) k1 k2 k3 (by rw [e1]; exact hce) hcv hcl T' rfl X'
    exact ⟨t2, st.trans a1, b1⟩
/-- a call that throws, and what it threw leaves this method too -/
theorem x_pass {index maxL n nL sz : Nat} {y : MethodName} {bytes : ByteArray} {ret : Option FieldType} {rm : Room} {sa : Nat → Nat} {As : List Value} {X : String} (hx : p.tables.exec = Jvm.exec) (hb : c.code = cc) (hml : c.maxLocals = nL) (hown : s.vm.findClass R_U = some m.cls) (hts : ∀ w ∈ zt, w.before args s = true) (hsz : s.heap.size = sz)
    (hU : Ws z g s.heap s.heap locs s) (hN : zN s) (hX : xN sa s) (hH : xH (zA z sz) s s.heap) (ht : ∀ x ∈ c.exceptionTable.toList, False) (hlocks : meth.locks = false)
    (hM : vx_Met l y (zw y bytes maxL ret) rm (va_Pc (.ref (mA z) :: As) (xI sa z g sz)) (fun _ _ _ _ => False) (vx_X (fun u : St => u = g) (xO z sz X) (zA z sz)) 1 6 (zA z sz)) (cw : CallW R s args R_U R_U index y bytes maxL ret (zw y bytes maxL ret) rm 1 6 n)
    (hn : As.length = n) (hsize : ls.size = nL) (hst : st0 = As.reverse ++ .ref (mA z) :: rest) (hW : 2 * (F0 m pc ls st0).monitorRoom + (rest.map fun v => v.category).sum ≤ 8) (hdg : decode cc pc = .ok (.invokevirtual index, 3)) (hf : 0 + 1 ≤ R.cells ∧ 0 + 6 ≤ R.slots) :
    W p l e R s m args below meth c s.heap locs 0 0 (vx_MQ below (fun _ _ _ _ => False) (vx_X (fun u : St => u = g) (xO z sz X) (zA z sz)) args s 1 6 (zA z sz)) (F0 m pc ls st0) := by
  subst hsz
  refine x_call (A0 := zA z s.heap.size) (H0 := s.heap) hx hb hml hown hts hU.1 hU.2.1 hU.2.2.1 hN hX hH hU.2.2.2 (fun q _ h => h) (fun q h => h) hM cw hn hsize hst hW hdg hf (fun ce q9 H1 locs1 hP1 hz1 hk1 hS1 h1 h2 h3 => ?_)
  exact vx_out (fun x h => (ht x h).elim) hlocks h1 h2 h3 (fun t ht9 hvm => ⟨g, rfl, ⟨rfl, by rw [ht9]; exact hP1, va_K.moved hvm hU.2.1, hU.2.2.1⟩, hS1.F ht9⟩) hS1.2.2 (Nat.le_refl _) (Nat.le_refl _)
end XRows
