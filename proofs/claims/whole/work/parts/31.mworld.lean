/-! THE REFERENCE's WORLD: one object, one row of 12100 digits (11 numbers of 1100 digits, base 65536, two's complement) -/
abbrev SM : Type := Int32 × Int64 × Int32 × Int32 × (Nat → Int64) × (Nat → Int32)
abbrev YM : Type := va_G × (Nat → Nat) × ClassId
abbrev oM (z : YM) : Nat := z.2.1 0
abbrev aM (z : YM) : Nat := z.2.1 1
abbrev mo (z : YM) (g : SM) : Nat × va_E := (oM z, .inr (3, [.int g.1, .long g.2.1, .int g.2.2.1, .int g.2.2.2.1, .ref (aM z), .long (g.2.2.2.2.1 0), .long (g.2.2.2.2.1 1), .long (g.2.2.2.2.1 2), .long (g.2.2.2.2.1 3)]))
abbrev mr (z : YM) (g : SM) : Nat × va_E := (aM z, .inl (z.2.2, 12100, .inl g.2.2.2.2.2))
def mw (z : YM) (g : SM) : va_W := [mo z g, mr z g]
def mty (z : YM) : List (ClassId × FieldType) := [(z.2.2, .int)]
def yA (z : YM) (sz : Nat) : Nat → Prop := fun q => (∃ k, k < 2 ∧ q = z.2.1 k) ∨ sz ≤ q
def mC (g : SM) (v : Int32) : SM := (v, g.2)
def mD (g : SM) (v : Int64) : SM := (g.1, v, g.2.2)
def mR (g : SM) (v : Int32) : SM := (g.1, g.2.1, v, g.2.2.2)
def mN (g : SM) (v : Int32) : SM := (g.1, g.2.1, g.2.2.1, v, g.2.2.2.2)
def mX (g : SM) (k : Nat) (v : Int64) : SM := (g.1, g.2.1, g.2.2.1, g.2.2.2.1, (fun j => if j = k then v else g.2.2.2.2.1 j), g.2.2.2.2.2)
def mF (g : SM) (f : Nat → Int32) : SM := (g.1, g.2.1, g.2.2.1, g.2.2.2.1, g.2.2.2.2.1, f)
def Ms (z : YM) (g : SM) (H0 H : Heap) (locs : List Loc) (s : State) : Prop := va_P z.1 vwCl (mw z g) H ∧ va_K z.1 vwCl (mty z) s ∧ va_D (yA z H0.size) (mw z g) ∧ va_S (yA z H0.size) H0 H locs
def mI (z : YM) (g : SM) (sz : Nat) (U : State) : Prop := U.heap.size = sz ∧ va_P z.1 vwCl (mw z g) U.heap ∧ va_K z.1 vwCl (mty z) U ∧ va_D (fun _ => True) (mw z g)
def mO (z : YM) (sz : Nat) (g : SM) (t : State) : Prop := va_P z.1 vwCl (mw z g) t.heap ∧ va_K z.1 vwCl (mty z) t ∧ va_D (yA z sz) (mw z g)
theorem mw_ad (z : YM) (g : SM) {k : Nat} {q : Nat × va_E} (h : (mw z g)[k]? = some q) : k < 2 ∧ q.1 = z.2.1 k := by
  have hk : k < 2 := (List.getElem?_eq_some_iff.mp h).1
  refine ⟨hk, ?_⟩
  match k, hk, h with
  | 0, _, h => cases h; rfl
  | 1, _, h => cases h; rfl
theorem mD_self {z : YM} {g : SM} {sz : Nat} (h : va_D (fun _ => True) (mw z g)) : va_D (yA z sz) (mw z g) := ⟨h.1, fun k q hq => Or.inl ⟨k, mw_ad z g hq⟩⟩
theorem yA_le {z : YM} {a b q : Nat} (h : a ≤ b) (hq : yA z b q) : yA z a q := hq.elim Or.inl (fun k => Or.inr (Nat.le_trans h k))
section MRows
variable {p : Program} {l : Launch} {e : Env} {R : Room} {s : State} {m : MethodId} {args : Array Value} {below : List Frame} {meth : Method} {c : Code} {H H0 : Heap} {locs : List Loc} {cells slots : Nat} {Q : State → Prop} {cc : ByteArray} {pc : Nat} {ls : Array Slot} {rest : List Value} {z : YM} {g : SM}
theorem mp_C (hx : p.tables.exec = Jvm.exec) (hb : c.code = cc) (hts : ∀ w ∈ zt, w.before args s = true) {own : String} (hown : s.vm.findClass own = some m.cls) (hU : Ms z g H0 H locs s) {index : Nat} (hlink : (Cond.fieldLink own index R_M "code" "I").before args s = true) {v : Int32} (hdg : decode cc pc = .ok (.putfield index, 3))
    (kk : ∀ (H1 : Heap) (locs1 : List Loc), Ms z (mC g v) H0 H1 locs1 s → W p l e R s m args below meth c H1 locs1 cells slots Q (F0 m (pc + 3) ls rest)) : W p l e R s m args below meth c H locs cells slots Q (F0 m pc ls (.int v :: .ref (oM z) :: rest)) := by
  refine va_put (D := z.1) (ci := 3) (v := .int v) (ty := .int) (C := R_M) (T := F_M) (N := 9) hx hb hts in_M t_M t_M_ok n_M hown hU.2.1 hU.1 hU.2.2.1 hU.2.2.2 0 rfl rfl 0 (by decide) hlink (fun _ h9 => h9) rfl (by decide +kernel) rfl rfl (Nat.le_of_ble_eq_true rfl) hdg (fun H1 locs1 hP hD hS => kk H1 locs1 ?_)
  exact ⟨hP, hU.2.1, hD, hS⟩
theorem mp_D (hx : p.tables.exec = Jvm.exec) (hb : c.code = cc) (hts : ∀ w ∈ zt, w.before args s = true) {own : String} (hown : s.vm.findClass own = some m.cls) (hU : Ms z g H0 H locs s) {index : Nat} (hlink : (Cond.fieldLink own index R_M "d" "J").before args s = true) {v : Int64} (hdg : decode cc pc = .ok (.putfield index, 3))
    (kk : ∀ (H1 : Heap) (locs1 : List Loc), Ms z (mD g v) H0 H1 locs1 s → W p l e R s m args below meth c H1 locs1 cells slots Q (F0 m (pc + 3) ls rest)) : W p l e R s m args below meth c H locs cells slots Q (F0 m pc ls (.long v :: .ref (oM z) :: rest)) := by
  refine va_put (D := z.1) (ci := 3) (v := .long v) (ty := .long) (C := R_M) (T := F_M) (N := 9) hx hb hts in_M t_M t_M_ok n_M hown hU.2.1 hU.1 hU.2.2.1 hU.2.2.2 0 rfl rfl 1 (by decide) hlink (fun _ h9 => h9) rfl (by decide +kernel) rfl rfl (Nat.le_of_ble_eq_true rfl) hdg (fun H1 locs1 hP hD hS => kk H1 locs1 ?_)
  exact ⟨hP, hU.2.1, hD, hS⟩
theorem mp_R (hx : p.tables.exec = Jvm.exec) (hb : c.code = cc) (hts : ∀ w ∈ zt, w.before args s = true) {own : String} (hown : s.vm.findClass own = some m.cls) (hU : Ms z g H0 H locs s) {index : Nat} (hlink : (Cond.fieldLink own index R_M "ring" "I").before args s = true) {v : Int32} (hdg : decode cc pc = .ok (.putfield index, 3))
    (kk : ∀ (H1 : Heap) (locs1 : List Loc), Ms z (mR g v) H0 H1 locs1 s → W p l e R s m args below meth c H1 locs1 cells slots Q (F0 m (pc + 3) ls rest)) : W p l e R s m args below meth c H locs cells slots Q (F0 m pc ls (.int v :: .ref (oM z) :: rest)) := by
  refine va_put (D := z.1) (ci := 3) (v := .int v) (ty := .int) (C := R_M) (T := F_M) (N := 9) hx hb hts in_M t_M t_M_ok n_M hown hU.2.1 hU.1 hU.2.2.1 hU.2.2.2 0 rfl rfl 2 (by decide) hlink (fun _ h9 => h9) rfl (by decide +kernel) rfl rfl (Nat.le_of_ble_eq_true rfl) hdg (fun H1 locs1 hP hD hS => kk H1 locs1 ?_)
  exact ⟨hP, hU.2.1, hD, hS⟩
theorem mp_N (hx : p.tables.exec = Jvm.exec) (hb : c.code = cc) (hts : ∀ w ∈ zt, w.before args s = true) {own : String} (hown : s.vm.findClass own = some m.cls) (hU : Ms z g H0 H locs s) {index : Nat} (hlink : (Cond.fieldLink own index R_M "minus" "Z").before args s = true) {v : Int32} (hv : v = 0 ∨ v = 1) (hdg : decode cc pc = .ok (.putfield index, 3))
    (kk : ∀ (H1 : Heap) (locs1 : List Loc), Ms z (mN g v) H0 H1 locs1 s → W p l e R s m args below meth c H1 locs1 cells slots Q (F0 m (pc + 3) ls rest)) : W p l e R s m args below meth c H locs cells slots Q (F0 m pc ls (.int v :: .ref (oM z) :: rest)) := by
  refine va_put (D := z.1) (ci := 3) (v := .int v) (ty := .boolean) (C := R_M) (T := F_M) (N := 9) hx hb hts in_M t_M t_M_ok n_M hown hU.2.1 hU.1 hU.2.2.1 hU.2.2.2 0 rfl rfl 3 (by decide) hlink (fun _ h9 => h9) rfl (by decide +kernel) (by rcases hv with rfl | rfl <;> rfl) (by rcases hv with rfl | rfl <;> rfl) (Nat.le_of_ble_eq_true rfl) hdg (fun H1 locs1 hP hD hS => kk H1 locs1 ?_)
  exact ⟨hP, hU.2.1, hD, hS⟩
theorem mp_X0 (hx : p.tables.exec = Jvm.exec) (hb : c.code = cc) (hts : ∀ w ∈ zt, w.before args s = true) {own : String} (hown : s.vm.findClass own = some m.cls) (hU : Ms z g H0 H locs s) {index : Nat} (hlink : (Cond.fieldLink own index R_M "x" "J").before args s = true) {v : Int64} (hdg : decode cc pc = .ok (.putfield index, 3))
    (kk : ∀ (H1 : Heap) (locs1 : List Loc), Ms z (mX g 0 v) H0 H1 locs1 s → W p l e R s m args below meth c H1 locs1 cells slots Q (F0 m (pc + 3) ls rest)) : W p l e R s m args below meth c H locs cells slots Q (F0 m pc ls (.long v :: .ref (oM z) :: rest)) := by
  refine va_put (D := z.1) (ci := 3) (v := .long v) (ty := .long) (C := R_M) (T := F_M) (N := 9) hx hb hts in_M t_M t_M_ok n_M hown hU.2.1 hU.1 hU.2.2.1 hU.2.2.2 0 rfl rfl 5 (by decide) hlink (fun _ h9 => h9) rfl (by decide +kernel) rfl rfl (Nat.le_of_ble_eq_true rfl) hdg (fun H1 locs1 hP hD hS => kk H1 locs1 ?_)
  exact ⟨hP, hU.2.1, hD, hS⟩
theorem mp_X1 (hx : p.tables.exec = Jvm.exec) (hb : c.code = cc) (hts : ∀ w ∈ zt, w.before args s = true) {own : String} (hown : s.vm.findClass own = some m.cls) (hU : Ms z g H0 H locs s) {index : Nat} (hlink : (Cond.fieldLink own index R_M "y" "J").before args s = true) {v : Int64} (hdg : decode cc pc = .ok (.putfield index, 3))
    (kk : ∀ (H1 : Heap) (locs1 : List Loc), Ms z (mX g 1 v) H0 H1 locs1 s → W p l e R s m args below meth c H1 locs1 cells slots Q (F0 m (pc + 3) ls rest)) : W p l e R s m args below meth c H locs cells slots Q (F0 m pc ls (.long v :: .ref (oM z) :: rest)) := by
  refine va_put (D := z.1) (ci := 3) (v := .long v) (ty := .long) (C := R_M) (T := F_M) (N := 9) hx hb hts in_M t_M t_M_ok n_M hown hU.2.1 hU.1 hU.2.2.1 hU.2.2.2 0 rfl rfl 6 (by decide) hlink (fun _ h9 => h9) rfl (by decide +kernel) rfl rfl (Nat.le_of_ble_eq_true rfl) hdg (fun H1 locs1 hP hD hS => kk H1 locs1 ?_)
  exact ⟨hP, hU.2.1, hD, hS⟩
theorem mp_X2 (hx : p.tables.exec = Jvm.exec) (hb : c.code = cc) (hts : ∀ w ∈ zt, w.before args s = true) {own : String} (hown : s.vm.findClass own = some m.cls) (hU : Ms z g H0 H locs s) {index : Nat} (hlink : (Cond.fieldLink own index R_M "z" "J").before args s = true) {v : Int64} (hdg : decode cc pc = .ok (.putfield index, 3))
    (kk : ∀ (H1 : Heap) (locs1 : List Loc), Ms z (mX g 2 v) H0 H1 locs1 s → W p l e R s m args below meth c H1 locs1 cells slots Q (F0 m (pc + 3) ls rest)) : W p l e R s m args below meth c H locs cells slots Q (F0 m pc ls (.long v :: .ref (oM z) :: rest)) := by
  refine va_put (D := z.1) (ci := 3) (v := .long v) (ty := .long) (C := R_M) (T := F_M) (N := 9) hx hb hts in_M t_M t_M_ok n_M hown hU.2.1 hU.1 hU.2.2.1 hU.2.2.2 0 rfl rfl 7 (by decide) hlink (fun _ h9 => h9) rfl (by decide +kernel) rfl rfl (Nat.le_of_ble_eq_true rfl) hdg (fun H1 locs1 hP hD hS => kk H1 locs1 ?_)
  exact ⟨hP, hU.2.1, hD, hS⟩
theorem mp_X3 (hx : p.tables.exec = Jvm.exec) (hb : c.code = cc) (hts : ∀ w ∈ zt, w.before args s = true) {own : String} (hown : s.vm.findClass own = some m.cls) (hU : Ms z g H0 H locs s) {index : Nat} (hlink : (Cond.fieldLink own index R_M "v" "J").before args s = true) {v : Int64} (hdg : decode cc pc = .ok (.putfield index, 3))
    (kk : ∀ (H1 : Heap) (locs1 : List Loc), Ms z (mX g 3 v) H0 H1 locs1 s → W p l e R s m args below meth c H1 locs1 cells slots Q (F0 m (pc + 3) ls rest)) : W p l e R s m args below meth c H locs cells slots Q (F0 m pc ls (.long v :: .ref (oM z) :: rest)) := by
  refine va_put (D := z.1) (ci := 3) (v := .long v) (ty := .long) (C := R_M) (T := F_M) (N := 9) hx hb hts in_M t_M t_M_ok n_M hown hU.2.1 hU.1 hU.2.2.1 hU.2.2.2 0 rfl rfl 8 (by decide) hlink (fun _ h9 => h9) rfl (by decide +kernel) rfl rfl (Nat.le_of_ble_eq_true rfl) hdg (fun H1 locs1 hP hD hS => kk H1 locs1 ?_)
  exact ⟨hP, hU.2.1, hD, hS⟩
theorem m_iast (hx : p.tables.exec = Jvm.exec) (hb : c.code = cc) (hU : Ms z g H0 H locs s) {ix v : Int32} (hin : vp_in ix 12100) (hdg : decode cc pc = .ok (.iastore, 1))
    (kk : ∀ (H1 : Heap) (locs1 : List Loc), Ms z (mF g (upd g.2.2.2.2.2 ix.toNatClampNeg v)) H0 H1 locs1 s → W p l e R s m args below meth c H1 locs1 cells slots Q (F0 m (pc + 1) ls rest)) : W p l e R s m args below meth c H locs cells slots Q (F0 m pc ls (.int v :: .int ix :: .ref (aM z) :: rest)) := by
  refine va_iast hx hb hU.2.1 hU.1 hU.2.2.1 hU.2.2.2 1 0 rfl rfl hin hdg (fun H1 locs1 hP hD hS => kk H1 locs1 ?_)
  exact ⟨hP, hU.2.1, hD, hS⟩
theorem m_vret {post : SM → Prop} {sz : Nat} (hx : p.tables.exec = Jvm.exec) (hb : c.code = cc) (hr : meth.sig.returnType = none) (hlocks : meth.locks = false) (hsz : s.heap.size = sz) (hU : Ms z g s.heap H locs s) (hp : post g) (hdg : decode cc pc = .ok (.return_, 1)) :
    W p l e R s m args below meth c H locs 0 0 (MQ below (va_Qv post (mO z sz) (yA z sz)) args s 0 0 (yA z sz)) (F0 m pc ls []) := by
  subst hsz
  exact W.vret hx hb hr (fun t ht hW => ⟨⟨g, rfl, hp, by rw [ht]; exact hU.1, va_K.moved hW.alike hU.2.1, hU.2.2.1⟩, hU.2.2.2.F ht⟩) hU.2.2.2.2.2 hdg
theorem m_iret {post : Int32 → SM → Prop} {sz : Nat} {v : Int32} (hx : p.tables.exec = Jvm.exec) (hb : c.code = cc) (hr : meth.sig.returnType = some .int) (hlocks : meth.locks = false) (hsz : s.heap.size = sz) (hU : Ms z g s.heap H locs s) (hp : post v g) (hdg : decode cc pc = .ok (.ireturn, 1)) :
    W p l e R s m args below meth c H locs 0 0 (MQ below (va_Qi post (mO z sz) (yA z sz)) args s 0 0 (yA z sz)) (F0 m pc ls [.int v]) := by
  subst hsz
  exact W.iret hx hb hr (fun t ht hW => ⟨⟨v, g, rfl, hp, by rw [ht]; exact hU.1, va_K.moved hW.alike hU.2.1, hU.2.2.1⟩, hU.2.2.2.F ht⟩) hU.2.2.2.2.2 hdg
theorem m_zret {post : Int32 → SM → Prop} {sz : Nat} {v : Int32} (hx : p.tables.exec = Jvm.exec) (hb : c.code = cc) (hr : meth.sig.returnType = some .boolean) (hlocks : meth.locks = false) (hsz : s.heap.size = sz) (hU : Ms z g s.heap H locs s) (hv : v = 0 ∨ v = 1) (hp : post v g) (hdg : decode cc pc = .ok (.ireturn, 1)) :
    W p l e R s m args below meth c H locs 0 0 (MQ below (va_Qi post (mO z sz) (yA z sz)) args s 0 0 (yA z sz)) (F0 m pc ls [.int v]) := by
  subst hsz
  exact W.zret hx hb hr (by rcases hv with rfl | rfl <;> rfl) (fun t ht hW => ⟨⟨v, g, rfl, hp, by rw [ht]; exact hU.1, va_K.moved hW.alike hU.2.1, hU.2.2.1⟩, hU.2.2.2.F ht⟩) hU.2.2.2.2.2 hdg
theorem m_lret {post : Int64 → SM → Prop} {sz : Nat} {v : Int64} (hx : p.tables.exec = Jvm.exec) (hb : c.code = cc) (hr : meth.sig.returnType = some .long) (hlocks : meth.locks = false) (hsz : s.heap.size = sz) (hU : Ms z g s.heap H locs s) (hp : post v g) (hdg : decode cc pc = .ok (.lreturn, 1)) :
    W p l e R s m args below meth c H locs 0 0 (MQ below (va_Ql post (mO z sz) (yA z sz)) args s 0 0 (yA z sz)) (F0 m pc ls [.long v]) := by
  subst hsz
  exact W.lret hx hb hr (fun t ht hW => ⟨⟨v, g, rfl, hp, by rw [ht]; exact hU.1, va_K.moved hW.alike hU.2.1, hU.2.2.1⟩, hU.2.2.2.F ht⟩) hU.2.2.2.2.2 hdg
end MRows
theorem m_ofW {l : Launch} {y : MethodName} {cc : ByteArray} {maxL : Nat} {ret : Option FieldType} {rm : Room} {z : YM} {g : SM} {sz : Nat} {vs : List Value} {Qc : Array Value → State → Outcome → State → Prop} (hy : plainName y.cls = true) (hlen : (lg_sl vs).length ≤ maxL)
    (body : ∀ (p : Program) (e : Env) (s : State) (m : MethodId) (below : List Frame) (meth : Method) (c : Code), p.tables.exec = Jvm.exec → c.code = cc → meth.sig.returnType = ret → c.maxLocals = maxL → s.vm.findClass y.cls = some m.cls → (∀ w ∈ zt, w.before vs.toArray s = true) → meth.locks = false → meth.name = y.name → s.heap.size = sz →
      ∀ ls, Ms z g s.heap s.heap [] s → lv_has ls maxL (lv_args 0 vs) → W p l e rm s m vs.toArray below meth c s.heap [] 0 0 (MQ below Qc vs.toArray s 0 0 (yA z sz)) (F0 m 0 ls [])) :
    Met l y (zw y cc maxL ret) rm (va_Pc vs (mI z g sz)) Qc 0 0 (yA z sz) := by
  refine Met.ofW (cc := cc) (maxL := maxL) (ret := ret) hy rfl ?_
  intro p e s m args below meth c s₁ B hml hv
  obtain ⟨rfl, hsz, hP, hK, hD0⟩ := hv
  have hts := atoms_spec (ws := zw y cc maxL ret) B.pre
  have hown : s.vm.findClass y.cls = some m.cls := findClass_of_methodNamed B.named
  have hl := lv_entry vs (n := maxL) hlen
  rw [lg_entry_eq]
  exact body p e s m below meth c B.exec B.bytes B.returns hml hown (fun w hw => hts w (List.mem_cons_of_mem _ hw)) B.notSynchronized (name_of_methodNamed B.named B.method).1 hsz _ ⟨hP, hK, mD_self hD0, va_S.rf⟩ hl
theorem m_blind {z : YM} {g : SM} {sz : Nat} {vs : List Value} : FrameBlind (va_Pc vs (mI z g sz)) := fun a U gg mk q => by
  obtain ⟨q0, q1, qP, qK, qD⟩ := q
  exact ⟨q0, q1, qP, va_K.moved (u := U) (U := U.calling gg mk a) (Vm.Alike.refl U.vm) qK, qD⟩
theorem m_pre {z : YM} {g : SM} {H0 H : Heap} {locs : List Loc} {s : State} {vs : List Value} (hU : Ms z g H0 H locs s) : ∀ U : State, U.heap = H → s.WarmedH U.vm → va_Pc vs (mI z g H.size) vs.toArray U :=
  fun U hH hW => ⟨rfl, by rw [hH], by rw [hH]; exact hU.1, va_K.moved hW.alike hU.2.1, ⟨hU.2.2.1.1, fun _ _ _ => trivial⟩⟩
theorem m_recv {z : YM} {g : SM} {H0 H : Heap} {locs : List Loc} {s : State} (hU : Ms z g H0 H locs s) : ∃ cell : Cell, H[oM z]? = some cell ∧ cell.vm.isStatics = false ∧ s.vm.findClass R_M = some cell.cls := va_recv (ci := 3) (q0 := 0) hU.2.1 hU.1 rfl rfl
section MCalls
variable {p : Program} {l : Launch} {e : Env} {R : Room} {s : State} {m : MethodId} {args : Array Value} {below : List Frame} {meth : Method} {c : Code} {H H0 : Heap} {locs : List Loc} {cells slots : Nat} {Q : State → Prop} {cc : ByteArray} {pc : Nat} {ls : Array Slot} {st0 rest : List Value} {z : YM} {g : SM} {a : Array Value}
theorem m_run {own C : String} {index maxL n nL : Nat} {y : MethodName} {bytes : ByteArray} {ret : Option FieldType} {rm : Room} {Qc : Array Value → State → Outcome → State → Prop} {b : Addr} {As : List Value} (hx : p.tables.exec = Jvm.exec) (hb : c.code = cc) (hml : c.maxLocals = nL) (hown : s.vm.findClass own = some m.cls) (hts : ∀ w ∈ zt, w.before args s = true) (hU : Ms z g H0 H locs s)
    (hM : Met l y (zw y bytes maxL ret) rm (va_Pc (.ref b :: As) (mI z g H.size)) Qc 0 0 (yA z H.size)) (cw : CallW R s args own C index y bytes maxL ret (zw y bytes maxL ret) rm 0 0 n) (hv : ∃ cell : Cell, H[b]? = some cell ∧ cell.vm.isStatics = false ∧ s.vm.findClass C = some cell.cls)
    (hn : As.length = n) (hsize : ls.size = nL) (hst : st0 = As.reverse ++ .ref b :: rest) (hW : 2 * (F0 m pc ls st0).monitorRoom + (rest.map fun v => v.category).sum ≤ 8) (hdg : decode cc pc = .ok (.invokevirtual index, 3)) (hf : cells + 0 ≤ R.cells ∧ slots + 0 ≤ R.slots) :
    va_Run p l e R s m args below meth c H locs cells slots 0 0 (F0 m pc ls st0) rest (Qc (Value.ref b :: As).toArray) (yA z H.size) :=
  va_runV ⟨hx, hb, hml, hown, hts⟩ hM cw ⟨m_blind, hv, m_pre hU⟩ rfl hn hsize hst hW hdg hf
theorem m_callv {post : SM → Prop} (hr : va_Run p l e R s m args below meth c H locs cells slots 0 0 (F0 m pc ls st0) rest (va_Qv post (mO z H.size) (yA z H.size) a) (yA z H.size)) (hU : Ms z g H0 H locs s)
    (kk : ∀ (g' : SM) (H1 : Heap) (locs1 : List Loc), post g' → Ms z g' H0 H1 locs1 s → W p l e R s m args below meth c H1 locs1 cells slots Q (F0 m (pc + 3) ls rest)) : W p l e R s m args below meth c H locs cells slots Q (F0 m pc ls st0) := by
  have hle := hU.2.2.2.1
  refine va_callv hr hU.2.2.2 (fun q _ h => yA_le hle h) (fun q h => yA_le hle h) (fun u t H1 locs1 ht hvm hw hB hz1 hk1 hS => ?_)
  obtain ⟨hP1, hK1, hD1⟩ := hB
  rw [ht] at hP1
  exact kk u H1 locs1 hw ⟨hP1, va_K.moved hvm.symm hK1, ⟨hD1.1, fun k q h => yA_le hle (hD1.2 k q h)⟩, hS⟩
theorem m_calli {post : Int32 → SM → Prop} (hr : va_Run p l e R s m args below meth c H locs cells slots 0 0 (F0 m pc ls st0) rest (va_Qi post (mO z H.size) (yA z H.size) a) (yA z H.size)) (hU : Ms z g H0 H locs s)
    (kk : ∀ (r : Int32) (g' : SM) (H1 : Heap) (locs1 : List Loc), post r g' → Ms z g' H0 H1 locs1 s → W p l e R s m args below meth c H1 locs1 cells slots Q (F0 m (pc + 3) ls (.int r :: rest))) : W p l e R s m args below meth c H locs cells slots Q (F0 m pc ls st0) := by
  have hle := hU.2.2.2.1
  refine va_calli hr hU.2.2.2 (fun q _ h => yA_le hle h) (fun q h => yA_le hle h) (fun r u t H1 locs1 ht hvm hw hB hz1 hk1 hS => ?_)
  obtain ⟨hP1, hK1, hD1⟩ := hB
  rw [ht] at hP1
  exact kk r u H1 locs1 hw ⟨hP1, va_K.moved hvm.symm hK1, ⟨hD1.1, fun k q h => yA_le hle (hD1.2 k q h)⟩, hS⟩
theorem m_calll {post : Int64 → SM → Prop} (hr : va_Run p l e R s m args below meth c H locs cells slots 0 0 (F0 m pc ls st0) rest (va_Ql post (mO z H.size) (yA z H.size) a) (yA z H.size)) (hU : Ms z g H0 H locs s)
    (kk : ∀ (r : Int64) (g' : SM) (H1 : Heap) (locs1 : List Loc), post r g' → Ms z g' H0 H1 locs1 s → W p l e R s m args below meth c H1 locs1 cells slots Q (F0 m (pc + 3) ls (.long r :: rest))) : W p l e R s m args below meth c H locs cells slots Q (F0 m pc ls st0) := by
  have hle := hU.2.2.2.1
  refine va_calll hr hU.2.2.2 (fun q _ h => yA_le hle h) (fun q h => yA_le hle h) (fun r u t H1 locs1 ht hvm hw hB hz1 hk1 hS => ?_)
  obtain ⟨hP1, hK1, hD1⟩ := hB
  rw [ht] at hP1
  exact kk r u H1 locs1 hw ⟨hP1, va_K.moved hvm.symm hK1, ⟨hD1.1, fun k q h => yA_le hle (hD1.2 k q h)⟩, hS⟩
end MCalls
