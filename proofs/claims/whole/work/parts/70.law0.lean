/-! THE LAW: the class's world, the row, the reference's world beside each other -/
def aL (s : State) : Nat → Prop := fun q => s.heap.size ≤ q
def yInj (z : ZZ) (y : YM) (o : Nat) : Prop := y.2.1 0 ≠ y.2.1 1 ∧ (∀ k, k < 2 → y.2.1 k ≠ o) ∧ ∀ i k, i < 22 → k < 2 → z.2.1 i ≠ y.2.1 k
/-- what stays: addresses, tables -/
def lvF (sa : Nat → Nat) (z : ZZ) (y : YM) (o : Nat) (cO : ClassId) (s : State) : Prop := zInj z o ∧ yInj z y o ∧ (∀ i, i < 22 → aL s (z.2.1 i)) ∧ aL s o ∧ (∀ k, k < 2 → aL s (y.2.1 k)) ∧ va_K z.1 vwCl (zty z ++ [(cO, .long)]) s ∧ va_K y.1 vwCl (mty y) s ∧ zN s ∧ xN sa s ∧ xH (aL s) s s.heap ∧ va_Nc E_A E_I s
theorem lvF.zo {sa : Nat → Nat} {z : ZZ} {y : YM} {o : Nat} {cO : ClassId} {s : State} (h : lvF sa z y o cO s) : zInj z o := h.1
theorem lvF.yo {sa : Nat → Nat} {z : ZZ} {y : YM} {o : Nat} {cO : ClassId} {s : State} (h : lvF sa z y o cO s) : yInj z y o := h.2.1
theorem lvF.az {sa : Nat → Nat} {z : ZZ} {y : YM} {o : Nat} {cO : ClassId} {s : State} (h : lvF sa z y o cO s) : (∀ i, i < 22 → aL s (z.2.1 i)) := h.2.2.1
theorem lvF.ao {sa : Nat → Nat} {z : ZZ} {y : YM} {o : Nat} {cO : ClassId} {s : State} (h : lvF sa z y o cO s) : aL s o := h.2.2.2.1
theorem lvF.ay {sa : Nat → Nat} {z : ZZ} {y : YM} {o : Nat} {cO : ClassId} {s : State} (h : lvF sa z y o cO s) : (∀ k, k < 2 → aL s (y.2.1 k)) := h.2.2.2.2.1
theorem lvF.kz {sa : Nat → Nat} {z : ZZ} {y : YM} {o : Nat} {cO : ClassId} {s : State} (h : lvF sa z y o cO s) : va_K z.1 vwCl (zty z ++ [(cO, .long)]) s := h.2.2.2.2.2.1
theorem lvF.ky {sa : Nat → Nat} {z : ZZ} {y : YM} {o : Nat} {cO : ClassId} {s : State} (h : lvF sa z y o cO s) : va_K y.1 vwCl (mty y) s := h.2.2.2.2.2.2.1
theorem lvF.nz {sa : Nat → Nat} {z : ZZ} {y : YM} {o : Nat} {cO : ClassId} {s : State} (h : lvF sa z y o cO s) : zN s := h.2.2.2.2.2.2.2.1
theorem lvF.nx {sa : Nat → Nat} {z : ZZ} {y : YM} {o : Nat} {cO : ClassId} {s : State} (h : lvF sa z y o cO s) : xN sa s := h.2.2.2.2.2.2.2.2.1
theorem lvF.hh {sa : Nat → Nat} {z : ZZ} {y : YM} {o : Nat} {cO : ClassId} {s : State} (h : lvF sa z y o cO s) : xH (aL s) s s.heap := h.2.2.2.2.2.2.2.2.2.1
theorem lvF.nc {sa : Nat → Nat} {z : ZZ} {y : YM} {o : Nat} {cO : ClassId} {s : State} (h : lvF sa z y o cO s) : va_Nc E_A E_I s := h.2.2.2.2.2.2.2.2.2.2
/-- what changes -/
def lvP (z : ZZ) (y : YM) (o : Nat) (cO : ClassId) (g : St) (h : SM) (f : Nat → Int64) (s : State) (H : Heap) (locs : List Loc) : Prop := va_P z.1 vwCl (uw z g ++ ow o cO f) H ∧ va_P y.1 vwCl (mw y h) H ∧ va_S (aL s) s.heap H locs
theorem lvF.wal {sa : Nat → Nat} {z : ZZ} {y : YM} {o : Nat} {cO : ClassId} {s : State} (hF : lvF sa z y o cO s) {H : Heap} (hH : s.heap.size ≤ H.size) : ∀ q, wA z o H.size q → aL s q := fun q h => by
  rcases h with (⟨i, hi, e⟩ | h) | h
  · rw [e]; exact hF.az i hi
  · exact Nat.le_trans hH h
  · rw [h]; exact hF.ao
theorem lvF.yal {sa : Nat → Nat} {z : ZZ} {y : YM} {o : Nat} {cO : ClassId} {s : State} (hF : lvF sa z y o cO s) {H : Heap} (hH : s.heap.size ≤ H.size) : ∀ q, yA y H.size q → aL s q := fun q h => by
  rcases h with ⟨k, hk, e⟩ | h
  · rw [e]; exact hF.ay k hk
  · exact Nat.le_trans hH h
theorem lvF.mkept {sa : Nat → Nat} {z : ZZ} {y : YM} {o : Nat} {cO : ClassId} {s : State} (hF : lvF sa z y o cO s) {H H1 : Heap} {h : SM} (hP : va_P y.1 vwCl (mw y h) H) (hk : ∀ q : Nat, q < H.size → ¬ wA z o H.size q → H1[q]? = H[q]?) : va_P y.1 vwCl (mw y h) H1 :=
  hP.kept (fun k q hq => by
    obtain ⟨a1, a2⟩ := mw_ad y h hq
    have hl := (hP k q hq).lt
    refine hk q.1 hl (fun hw => ?_)
    rcases hw with (⟨i, hi, e⟩ | w) | w
    · exact hF.yo.2.2 i k hi a1 (by rw [← e, a2])
    · omega
    · exact hF.yo.2.1 k a1 (by rw [← a2, w]))
theorem lvF.zkept {sa : Nat → Nat} {z : ZZ} {y : YM} {o : Nat} {cO : ClassId} {s : State} (hF : lvF sa z y o cO s) {H H1 : Heap} {g : St} {f : Nat → Int64} (hP : va_P z.1 vwCl (uw z g ++ ow o cO f) H) (hk : ∀ q : Nat, q < H.size → ¬ yA y H.size q → H1[q]? = H[q]?) : va_P z.1 vwCl (uw z g ++ ow o cO f) H1 := by
  have h1 : va_P z.1 vwCl (uw z g) H := va_pre hP
  have h2 : va_P z.1 vwCl (ow o cO f) H := va_suf hP
  refine va_P.app (h1.kept (fun k q hq => ?_)) (h2.kept (fun k q hq => ?_))
  · obtain ⟨a1, a2⟩ := uw_ad z g hq
    have hl := (h1 k q hq).lt
    refine hk q.1 hl (fun hw => ?_)
    rcases hw with ⟨i, hi, e⟩ | w
    · exact hF.yo.2.2 k i a1 hi (by rw [← e, a2])
    · omega
  · have hl := (h2 k q hq).lt
    have h3 : k < 1 := (List.getElem?_eq_some_iff.mp hq).1
    rw [show k = 0 by omega] at hq
    cases hq
    refine hk o hl (fun hw => ?_)
    rcases hw with ⟨i, hi, e⟩ | w
    · exact hF.yo.2.1 i hi e.symm
    · exact absurd hl (Nat.not_lt.mpr w)
theorem lvF.xh {sa : Nat → Nat} {z : ZZ} {y : YM} {o : Nat} {cO : ClassId} {s : State} (hF : lvF sa z y o cO s) {H : Heap} {locs : List Loc} (hS : va_S (aL s) s.heap H locs) : xH (wA z o H.size) s H :=
  (hF.hh.kept (fun a h1 h2 => hS.2.1 a h1 h2)).narrow (hF.wal hS.1)
theorem lvF.yD {sa : Nat → Nat} {z : ZZ} {y : YM} {o : Nat} {cO : ClassId} {s : State} (hF : lvF sa z y o cO s) (h : SM) : va_D (fun _ => True) (mw y h) :=
  ⟨fun i j p q hp hq e => by
    obtain ⟨a1, a2⟩ := mw_ad y h hp
    obtain ⟨b1, b2⟩ := mw_ad y h hq
    have e2 : y.2.1 i = y.2.1 j := by rw [← a2, ← b2, e]
    rcases (show i = j ∨ (i = 0 ∧ j = 1) ∨ (i = 1 ∧ j = 0) by omega) with w | ⟨w, v⟩ | ⟨w, v⟩
    · exact w
    · rw [w, v] at e2; exact absurd e2 hF.yo.1
    · rw [w, v] at e2; exact absurd e2.symm hF.yo.1, fun _ _ _ => trivial⟩
section LawRows
variable {p : Program} {l : Launch} {e : Env} {R : Room} {s : State} {m : MethodId} {args : Array Value} {below : List Frame} {meth : Method} {c : Code} {H : Heap} {locs : List Loc} {cells slots : Nat} {Q : State → Prop} {cc : ByteArray} {pc : Nat} {ls : Array Slot} {st0 rest : List Value} {sa : Nat → Nat} {z : ZZ} {y : YM} {o : Nat} {cO : ClassId} {g : St} {h : SM} {f : Nat → Int64}
theorem lc_wrap {own : String} {index maxL n nL : Nat} {y9 : MethodName} {bytes : ByteArray} {hh : List (Nat × Nat × Nat × Nat)} {rm : Room} {post : Int32 → St × (Nat → Int64) → Prop} {As : List Value} (hx : p.tables.exec = Jvm.exec) (hb : c.code = cc) (hml : c.maxLocals = nL) (hown : s.vm.findClass own = some m.cls) (hts : ∀ w ∈ zt, w.before args s = true) (hF : lvF sa z y o cO s) (hP : lvP z y o cO g h f s H locs)
    (hM : Met l y9 (Cond.codeWith y9 bytes maxL (some .int) hh :: zt) rm (va_Pc As (wI sa z g o cO f H.size)) (va_Qi post (fun (u : St × (Nat → Int64)) t => va_P z.1 vwCl (uw z u.1 ++ ow o cO u.2) t.heap) (wA z o H.size)) 1 6 (wA z o H.size))
    (cw : vx_CSW R s args own index y9 bytes maxL (some .int) hh (Cond.codeWith y9 bytes maxL (some .int) hh :: zt) rm 1 6 n)
    (hn : As.length = n) (hsize : ls.size = nL) (hst : st0 = As.reverse ++ rest) (hW : 2 * (F0 m pc ls st0).monitorRoom + (rest.map fun v => v.category).sum ≤ 8) (hdg : decode cc pc = .ok (.invokestatic index, 3)) (hf : cells + 1 ≤ R.cells ∧ slots + 6 ≤ R.slots)
    (kk : ∀ (r : Int32) (u : St × (Nat → Int64)) (H1 : Heap) (locs1 : List Loc), post r u → lvP z y o cO u.1 h u.2 s H1 locs1 → W p l e R s m args below meth c H1 locs1 (cells + 1) (slots + 6) Q (F0 m (pc + 3) ls (.int r :: rest))) : W p l e R s m args below meth c H locs cells slots Q (F0 m pc ls st0) := by
  have hA := hF.wal hP.2.2.1
  have hX := hF.xh hP.2.2
  refine va_calli (A1 := wA z o H.size) (vx_runSW (hh := hh) ⟨hx, hb, hml, hown, hts⟩ hM cw ⟨wI_blind, fun U hU hW => ⟨rfl, by rw [hU], by rw [hU]; exact hP.1, va_K.moved hW.alike hF.kz, hF.nz.warm hW, hF.nx.warm hW, by rw [hU]; exact hX.moved hW.alike, va_Nc.moved hW.alike hF.nc⟩⟩ rfl hn hsize hst hW hdg hf) hP.2.2 (fun q _ h => hA q h) hA (fun r u t H1 locs1 ht hvm hw hB hz1 hk1 hS => ?_)
  exact kk r u H1 locs1 hw ⟨by rw [← ht]; exact hB, hF.mkept hP.2.1 hk1, hS⟩
theorem lc_mrun {own : String} {index maxL n nL : Nat} {y9 : MethodName} {bytes : ByteArray} {ret : Option FieldType} {rm : Room} {Qc : Array Value → State → Outcome → State → Prop} {As : List Value} (hx : p.tables.exec = Jvm.exec) (hb : c.code = cc) (hml : c.maxLocals = nL) (hown : s.vm.findClass own = some m.cls) (hts : ∀ w ∈ zt, w.before args s = true) (hF : lvF sa z y o cO s) (hP : lvP z y o cO g h f s H locs)
    (hM : Met l y9 (zw y9 bytes maxL ret) rm (va_Pc (.ref (oM y) :: As) (mI y h H.size)) Qc 0 0 (yA y H.size)) (cw : CallW R s args own R_M index y9 bytes maxL ret (zw y9 bytes maxL ret) rm 0 0 n)
    (hn : As.length = n) (hsize : ls.size = nL) (hst : st0 = As.reverse ++ .ref (oM y) :: rest) (hW : 2 * (F0 m pc ls st0).monitorRoom + (rest.map fun v => v.category).sum ≤ 8) (hdg : decode cc pc = .ok (.invokevirtual index, 3)) (hf : cells + 0 ≤ R.cells ∧ slots + 0 ≤ R.slots) :
    va_Run p l e R s m args below meth c H locs cells slots 0 0 (F0 m pc ls st0) rest (Qc (Value.ref (oM y) :: As).toArray) (yA y H.size) :=
  va_runV ⟨hx, hb, hml, hown, hts⟩ hM cw ⟨m_blind, va_recv (ci := 3) (q0 := 0) hF.ky hP.2.1 rfl rfl, fun U hU hW => ⟨rfl, by rw [hU], by rw [hU]; exact hP.2.1, va_K.moved hW.alike hF.ky, hF.yD h⟩⟩ rfl hn hsize hst hW hdg hf
theorem lc_mi {post : Int32 → SM → Prop} {a : Array Value} (hF : lvF sa z y o cO s) (hP : lvP z y o cO g h f s H locs) (hr : va_Run p l e R s m args below meth c H locs cells slots 0 0 (F0 m pc ls st0) rest (va_Qi post (mO y H.size) (yA y H.size) a) (yA y H.size))
    (kk : ∀ (r : Int32) (h' : SM) (H1 : Heap) (locs1 : List Loc), post r h' → lvP z y o cO g h' f s H1 locs1 → W p l e R s m args below meth c H1 locs1 cells slots Q (F0 m (pc + 3) ls (.int r :: rest))) : W p l e R s m args below meth c H locs cells slots Q (F0 m pc ls st0) := by
  have hA := hF.yal hP.2.2.1
  refine va_calli hr hP.2.2 (fun q _ h => hA q h) hA (fun r u t H1 locs1 ht hvm hw hB hz1 hk1 hS => ?_)
  exact kk r u H1 locs1 hw ⟨hF.zkept hP.1 hk1, by rw [← ht]; exact hB.1, hS⟩
theorem lc_mv {post : SM → Prop} {a : Array Value} (hF : lvF sa z y o cO s) (hP : lvP z y o cO g h f s H locs) (hr : va_Run p l e R s m args below meth c H locs cells slots 0 0 (F0 m pc ls st0) rest (va_Qv post (mO y H.size) (yA y H.size) a) (yA y H.size))
    (kk : ∀ (h' : SM) (H1 : Heap) (locs1 : List Loc), post h' → lvP z y o cO g h' f s H1 locs1 → W p l e R s m args below meth c H1 locs1 cells slots Q (F0 m (pc + 3) ls rest)) : W p l e R s m args below meth c H locs cells slots Q (F0 m pc ls st0) := by
  have hA := hF.yal hP.2.2.1
  refine va_callv hr hP.2.2 (fun q _ h => hA q h) hA (fun u t H1 locs1 ht hvm hw hB hz1 hk1 hS => ?_)
  exact kk u H1 locs1 hw ⟨hF.zkept hP.1 hk1, by rw [← ht]; exact hB.1, hS⟩
/-- a method of the class itself, called by the law -/
theorem lc_ci {post : Int32 → St → Prop} {a : Array Value} (hF : lvF sa z y o cO s) (hP : lvP z y o cO g h f s H locs) (hr : va_Run p l e R s m args below meth c H locs cells slots 0 0 (F0 m pc ls st0) rest (va_Qi post (zO z H.size) (zA z H.size) a) (zA z H.size))
    (kk : ∀ (r : Int32) (g' : St) (H1 : Heap) (locs1 : List Loc), post r g' → lvP z y o cO g' h f s H1 locs1 → W p l e R s m args below meth c H1 locs1 cells slots Q (F0 m (pc + 3) ls (.int r :: rest))) : W p l e R s m args below meth c H locs cells slots Q (F0 m pc ls st0) := by
  have hA := hF.wal hP.2.2.1
  refine w_calli hr hP.2.2 (fun q h => hA q (Or.inl h)) (fun r g1 H1 locs1 hp hP1 hz1 hk1 hS1 => ?_)
  exact kk r g1 H1 locs1 hp ⟨ow_kept hP.1 hF.zo hk1 hP1, hF.mkept hP.2.1 (fun q h1 h2 => hk1 q h1 (fun h3 => h2 (Or.inl h3))), hS1⟩
end LawRows
