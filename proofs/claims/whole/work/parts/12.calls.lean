/-! CALLS IN THE CLASS's WORLD -/
theorem z_blind {z : ZZ} {g : St} {sz : Nat} {vs : List Value} : FrameBlind (va_Pc vs (zI z g sz)) := fun a U gg mk q => by
  obtain ⟨q0, q1, qP, qK, qD, qN⟩ := q
  exact ⟨q0, q1, qP, va_K.moved (u := U) (U := U.calling gg mk a) (Vm.Alike.refl U.vm) qK, qD, zN.same rfl qN⟩
theorem z_pre {z : ZZ} {g : St} {H0 H : Heap} {locs : List Loc} {s : State} {vs : List Value} (hU : Ws z g H0 H locs s) (hN : zN s) : ∀ U : State, U.heap = H → s.WarmedH U.vm → va_Pc vs (zI z g H.size) vs.toArray U :=
  fun U hH hW => ⟨rfl, by rw [hH], by rw [hH]; exact hU.1, va_K.moved hW.alike hU.2.1, ⟨hU.2.2.1.1, fun _ _ _ => trivial⟩, hN.warm hW⟩
theorem z_recvB {z : ZZ} {g : St} {H0 H : Heap} {locs : List Loc} {s : State} (hU : Ws z g H0 H locs s) {i : Nat} (hi : i < 10) : ∃ cell : Cell, H[oA z i]? = some cell ∧ cell.vm.isStatics = false ∧ s.vm.findClass R_B = some cell.cls := va_recv (ci := 2) (q0 := 2 + 2 * i) hU.2.1 hU.1 rfl (uw_o z g hi)
theorem z_recvK {z : ZZ} {g : St} {H0 H : Heap} {locs : List Loc} {s : State} (hU : Ws z g H0 H locs s) : ∃ cell : Cell, H[kA z]? = some cell ∧ cell.vm.isStatics = false ∧ s.vm.findClass R_K = some cell.cls := va_recv (ci := 1) (q0 := 1) hU.2.1 hU.1 rfl rfl
theorem z_recvM {z : ZZ} {g : St} {H0 H : Heap} {locs : List Loc} {s : State} (hU : Ws z g H0 H locs s) : ∃ cell : Cell, H[mA z]? = some cell ∧ cell.vm.isStatics = false ∧ s.vm.findClass R_U = some cell.cls := va_recv (ci := 0) (q0 := 0) hU.2.1 hU.1 rfl rfl
section ZCalls
variable {p : Program} {l : Launch} {e : Env} {R : Room} {s : State} {m : MethodId} {args : Array Value} {below : List Frame} {meth : Method} {c : Code} {H H0 : Heap} {locs : List Loc} {cells slots : Nat} {Q : State → Prop} {cc : ByteArray} {pc : Nat} {ls : Array Slot} {st0 rest : List Value} {z : ZZ} {g : St} {a : Array Value}
theorem z_run {own C : String} {index maxL n nL : Nat} {y : MethodName} {bytes : ByteArray} {ret : Option FieldType} {rm : Room} {Qc : Array Value → State → Outcome → State → Prop} {b : Addr} {As : List Value} (hx : p.tables.exec = Jvm.exec) (hb : c.code = cc) (hml : c.maxLocals = nL) (hown : s.vm.findClass own = some m.cls) (hts : ∀ w ∈ zt, w.before args s = true) (hU : Ws z g H0 H locs s) (hN : zN s)
    (hM : Met l y (zw y bytes maxL ret) rm (va_Pc (.ref b :: As) (zI z g H.size)) Qc 0 0 (zA z H.size)) (cw : CallW R s args own C index y bytes maxL ret (zw y bytes maxL ret) rm 0 0 n) (hv : ∃ cell : Cell, H[b]? = some cell ∧ cell.vm.isStatics = false ∧ s.vm.findClass C = some cell.cls)
    (hn : As.length = n) (hsize : ls.size = nL) (hst : st0 = As.reverse ++ .ref b :: rest) (hW : 2 * (F0 m pc ls st0).monitorRoom + (rest.map fun v => v.category).sum ≤ 8) (hdg : decode cc pc = .ok (.invokevirtual index, 3)) (hf : cells + 0 ≤ R.cells ∧ slots + 0 ≤ R.slots) :
    va_Run p l e R s m args below meth c H locs cells slots 0 0 (F0 m pc ls st0) rest (Qc (Value.ref b :: As).toArray) (zA z H.size) :=
  va_runV ⟨hx, hb, hml, hown, hts⟩ hM cw ⟨z_blind, hv, z_pre hU hN⟩ rfl hn hsize hst hW hdg hf
theorem z_callv {post : St → Prop} (hr : va_Run p l e R s m args below meth c H locs cells slots 0 0 (F0 m pc ls st0) rest (va_Qv post (zO z H.size) (zA z H.size) a) (zA z H.size)) (hU : Ws z g H0 H locs s)
    (kk : ∀ (g' : St) (H1 : Heap) (locs1 : List Loc), post g' → Ws z g' H0 H1 locs1 s → W p l e R s m args below meth c H1 locs1 cells slots Q (F0 m (pc + 3) ls rest)) : W p l e R s m args below meth c H locs cells slots Q (F0 m pc ls st0) := by
  have hle := hU.2.2.2.1
  refine va_callv hr hU.2.2.2 (fun q _ h => zA_le hle h) (fun q h => zA_le hle h) (fun u t H1 locs1 ht hvm hw hB hz1 hk1 hS => ?_)
  obtain ⟨hP1, hK1, hD1⟩ := hB
  rw [ht] at hP1
  exact kk u H1 locs1 hw ⟨hP1, va_K.moved hvm.symm hK1, ⟨hD1.1, fun k q h => zA_le hle (hD1.2 k q h)⟩, hS⟩
theorem z_calli {post : Int32 → St → Prop} (hr : va_Run p l e R s m args below meth c H locs cells slots 0 0 (F0 m pc ls st0) rest (va_Qi post (zO z H.size) (zA z H.size) a) (zA z H.size)) (hU : Ws z g H0 H locs s)
    (kk : ∀ (r : Int32) (g' : St) (H1 : Heap) (locs1 : List Loc), post r g' → Ws z g' H0 H1 locs1 s → W p l e R s m args below meth c H1 locs1 cells slots Q (F0 m (pc + 3) ls (.int r :: rest))) : W p l e R s m args below meth c H locs cells slots Q (F0 m pc ls st0) := by
  have hle := hU.2.2.2.1
  refine va_calli hr hU.2.2.2 (fun q _ h => zA_le hle h) (fun q h => zA_le hle h) (fun r u t H1 locs1 ht hvm hw hB hz1 hk1 hS => ?_)
  obtain ⟨hP1, hK1, hD1⟩ := hB
  rw [ht] at hP1
  exact kk r u H1 locs1 hw ⟨hP1, va_K.moved hvm.symm hK1, ⟨hD1.1, fun k q h => zA_le hle (hD1.2 k q h)⟩, hS⟩
theorem z_calll {post : Int64 → St → Prop} (hr : va_Run p l e R s m args below meth c H locs cells slots 0 0 (F0 m pc ls st0) rest (va_Ql post (zO z H.size) (zA z H.size) a) (zA z H.size)) (hU : Ws z g H0 H locs s)
    (kk : ∀ (r : Int64) (g' : St) (H1 : Heap) (locs1 : List Loc), post r g' → Ws z g' H0 H1 locs1 s → W p l e R s m args below meth c H1 locs1 cells slots Q (F0 m (pc + 3) ls (.long r :: rest))) : W p l e R s m args below meth c H locs cells slots Q (F0 m pc ls st0) := by
  have hle := hU.2.2.2.1
  refine va_calll hr hU.2.2.2 (fun q _ h => zA_le hle h) (fun q h => zA_le hle h) (fun r u t H1 locs1 ht hvm hw hB hz1 hk1 hS => ?_)
  obtain ⟨hP1, hK1, hD1⟩ := hB
  rw [ht] at hP1
  exact kk r u H1 locs1 hw ⟨hP1, va_K.moved hvm.symm hK1, ⟨hD1.1, fun k q h => zA_le hle (hD1.2 k q h)⟩, hS⟩
end ZCalls
