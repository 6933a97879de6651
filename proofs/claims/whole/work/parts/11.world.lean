/-! THE CLASS's WORLD: one object, its recurrence, ten numbers (0..7: t u p q r s minusT minusU; 8, 9: last, before), each an object and a row of 512 words; always held whole, so that no call needs a frame. -/
abbrev BS : Type := Int32 × Int32 × (Nat → Int32)
abbrev St : Type := Int32 × Int32 × (Nat → Int64) × (Nat → BS)
abbrev ZZ : Type := va_G × (Nat → Nat) × (Nat → ClassId)
abbrev oA (z : ZZ) (i : Nat) : Nat := z.2.1 (2 + 2 * i)
abbrev rA (z : ZZ) (i : Nat) : Nat := z.2.1 (3 + 2 * i)
abbrev mA (z : ZZ) : Nat := z.2.1 0
abbrev kA (z : ZZ) : Nat := z.2.1 1
abbrev bo (z : ZZ) (g : St) (i : Nat) : Nat × va_E := (oA z i, .inr (2, [.ref (rA z i), .int (g.2.2.2 i).1, .int (g.2.2.2 i).2.1]))
abbrev bw (z : ZZ) (g : St) (i : Nat) : Nat × va_E := (rA z i, .inl (z.2.2 i, 512, .inl (g.2.2.2 i).2.2))
def uw (z : ZZ) (g : St) : va_W := [(mA z, .inr (0, [.ref (oA z 0), .ref (oA z 1), .ref (oA z 2), .ref (oA z 3), .ref (oA z 4), .ref (oA z 5), .ref (oA z 6), .ref (oA z 7), .ref (kA z), .int g.1, .int g.2.1])), (kA z, .inr (1, [.ref (oA z 8), .ref (oA z 9), .long (g.2.2.1 0), .long (g.2.2.1 1), .long (g.2.2.1 2), .long (g.2.2.1 3)])), bo z g 0, bw z g 0, bo z g 1, bw z g 1, bo z g 2, bw z g 2, bo z g 3, bw z g 3, bo z g 4, bw z g 4, bo z g 5, bw z g 5, bo z g 6, bw z g 6, bo z g 7, bw z g 7, bo z g 8, bw z g 8, bo z g 9, bw z g 9]
def zty (z : ZZ) : List (ClassId × FieldType) := [(z.2.2 0, .int), (z.2.2 1, .int), (z.2.2 2, .int), (z.2.2 3, .int), (z.2.2 4, .int), (z.2.2 5, .int), (z.2.2 6, .int), (z.2.2 7, .int), (z.2.2 8, .int), (z.2.2 9, .int)]
def zA (z : ZZ) (sz : Nat) : Nat → Prop := fun q => (∃ k, k < 22 ∧ q = z.2.1 k) ∨ sz ≤ q
theorem lt10 {i : Nat} (h : i < 10) : i = 0 ∨ i = 1 ∨ i = 2 ∨ i = 3 ∨ i = 4 ∨ i = 5 ∨ i = 6 ∨ i = 7 ∨ i = 8 ∨ i = 9 := by omega
theorem uw_o (z : ZZ) (g : St) {i : Nat} (hi : i < 10) : (uw z g)[2 + 2 * i]? = some (bo z g i) := by
  rcases lt10 hi with rfl | rfl | rfl | rfl | rfl | rfl | rfl | rfl | rfl | rfl <;> rfl
theorem uw_w (z : ZZ) (g : St) {i : Nat} (hi : i < 10) : (uw z g)[3 + 2 * i]? = some (bw z g i) := by
  rcases lt10 hi with rfl | rfl | rfl | rfl | rfl | rfl | rfl | rfl | rfl | rfl <;> rfl
theorem zty_a (z : ZZ) {i : Nat} (hi : i < 10) : (zty z)[i]? = some (z.2.2 i, .int) := by
  rcases lt10 hi with rfl | rfl | rfl | rfl | rfl | rfl | rfl | rfl | rfl | rfl <;> rfl
def sG (g : St) (i : Nat) (b : BS) : St := (g.1, g.2.1, g.2.2.1, fun j => if j = i then b else g.2.2.2 j)
def sW (g : St) (i : Nat) (f : Nat → Int32) : St := sG g i ((g.2.2.2 i).1, (g.2.2.2 i).2.1, f)
def sD (g : St) (v : Int32) : St := (v, g.2)
def sR (g : St) (v : Int32) : St := (g.1, v, g.2.2)
def sK (g : St) (k : Nat) (v : Int64) : St := (g.1, g.2.1, (fun j => if j = k then v else g.2.2.1 j), g.2.2.2)
theorem sG_s (g : St) (i : Nat) (b : BS) : (sG g i b).2.2.2 i = b := if_pos rfl
theorem sG_n (g : St) {i j : Nat} (b : BS) (h : j ≠ i) : (sG g i b).2.2.2 j = g.2.2.2 j := if_neg h
theorem sG_sG (g : St) (i : Nat) (a b : BS) : sG (sG g i a) i b = sG g i b := by
  unfold sG
  simp only [Prod.mk.injEq, true_and]
  funext j
  split <;> rfl
theorem sG_self (g : St) (i : Nat) : sG g i (g.2.2.2 i) = g := by
  unfold sG
  obtain ⟨a, b, c, d⟩ := g
  simp only [Prod.mk.injEq, true_and]
  funext j
  split
  · subst_vars; rfl
  · rfl
theorem sW_eq (g : St) (i : Nat) (f : Nat → Int32) : sW g i f = sG g i ((g.2.2.2 i).1, (g.2.2.2 i).2.1, f) := rfl
theorem sW_sW (g : St) (i : Nat) (f f2 : Nat → Int32) : sW (sW g i f) i f2 = sW g i f2 := by rw [sW_eq, sW_eq, sW_eq, sG_s, sG_sG]
theorem sW_sG (g : St) (i : Nat) (b : BS) (f : Nat → Int32) : sW (sG g i b) i f = sG g i (b.1, b.2.1, f) := by rw [sW_eq, sG_s, sG_sG]
theorem sW_self (g : St) (i : Nat) : sW g i (g.2.2.2 i).2.2 = g := sG_self g i
theorem sW_s (g : St) (i : Nat) (f : Nat → Int32) : (sW g i f).2.2.2 i = ((g.2.2.2 i).1, (g.2.2.2 i).2.1, f) := if_pos rfl
theorem sW_n (g : St) {i j : Nat} (f : Nat → Int32) (h : j ≠ i) : (sW g i f).2.2.2 j = g.2.2.2 j := if_neg h
theorem sW_8 (g : St) (f h f2 h2 : Nat → Int32) : sW (sW (sW (sW g 8 f) 9 h) 8 f2) 9 h2 = sW (sW g 8 f2) 9 h2 := by
  unfold sW sG
  simp only [Prod.mk.injEq, true_and]
  funext j
  by_cases h9 : j = 9
  · subst h9; rfl
  · by_cases h8 : j = 8
    · subst h8; rfl
    · simp only [if_neg h9, if_neg h8]
theorem uw_so (z : ZZ) (g : St) {i : Nat} (hi : i < 10) (v w : Int32) : (uw z g).set (2 + 2 * i) (oA z i, .inr (2, [.ref (rA z i), .int v, .int w])) = uw z (sG g i (v, w, (g.2.2.2 i).2.2)) := by
  rcases lt10 hi with rfl | rfl | rfl | rfl | rfl | rfl | rfl | rfl | rfl | rfl <;> rfl
theorem uw_sw (z : ZZ) (g : St) {i : Nat} (hi : i < 10) (f : Nat → Int32) : (uw z g).set (3 + 2 * i) (rA z i, .inl (z.2.2 i, 512, .inl f)) = uw z (sW g i f) := by
  rcases lt10 hi with rfl | rfl | rfl | rfl | rfl | rfl | rfl | rfl | rfl | rfl <;> rfl
def Ws (z : ZZ) (g : St) (H0 H : Heap) (locs : List Loc) (s : State) : Prop := va_P z.1 vwCl (uw z g) H ∧ va_K z.1 vwCl (zty z) s ∧ va_D (zA z H0.size) (uw z g) ∧ va_S (zA z H0.size) H0 H locs
/-- the links among nest mates -/
def zN (U : State) : Prop := va_Nw (.fieldLinkNest R_K 64 R_B "words" "[I" "UnitFinder") U ∧ va_Nw (.fieldLinkNest R_K 48 R_B "length" "I" "UnitFinder") U ∧ va_Nw (.fieldLinkNest R_U 151 R_K "last" "LUnitFinder$Big;" "UnitFinder") U ∧ va_Nw (.fieldLinkNest R_U 148 R_K "before" "LUnitFinder$Big;" "UnitFinder") U
theorem zN.warm {s U : State} (hW : s.WarmedH U.vm) (h : zN s) : zN U := ⟨va_Nw.warmF hW h.1, va_Nw.warmF hW h.2.1, va_Nw.warmF hW h.2.2.1, va_Nw.warmF hW h.2.2.2⟩
theorem zN.same {u U : State} (e : u.vm = U.vm) (h : zN u) : zN U := ⟨va_tabs rfl e h.1, va_tabs rfl e h.2.1, va_tabs rfl e h.2.2.1, va_tabs rfl e h.2.2.2⟩
def zI (z : ZZ) (g : St) (sz : Nat) (U : State) : Prop := U.heap.size = sz ∧ va_P z.1 vwCl (uw z g) U.heap ∧ va_K z.1 vwCl (zty z) U ∧ va_D (fun _ => True) (uw z g) ∧ zN U
def zO (z : ZZ) (sz : Nat) (g : St) (t : State) : Prop := va_P z.1 vwCl (uw z g) t.heap ∧ va_K z.1 vwCl (zty z) t ∧ va_D (zA z sz) (uw z g)
theorem uw_ad (z : ZZ) (g : St) {k : Nat} {q : Nat × va_E} (h : (uw z g)[k]? = some q) : k < 22 ∧ q.1 = z.2.1 k := by
  have hk : k < 22 := (List.getElem?_eq_some_iff.mp h).1
  refine ⟨hk, ?_⟩
  match k, hk, h with
  | 0, _, h => cases h; rfl
  | 1, _, h => cases h; rfl
  | 2, _, h => cases h; rfl
  | 3, _, h => cases h; rfl
  | 4, _, h => cases h; rfl
  | 5, _, h => cases h; rfl
  | 6, _, h => cases h; rfl
  | 7, _, h => cases h; rfl
  | 8, _, h => cases h; rfl
  | 9, _, h => cases h; rfl
  | 10, _, h => cases h; rfl
  | 11, _, h => cases h; rfl
  | 12, _, h => cases h; rfl
  | 13, _, h => cases h; rfl
  | 14, _, h => cases h; rfl
  | 15, _, h => cases h; rfl
  | 16, _, h => cases h; rfl
  | 17, _, h => cases h; rfl
  | 18, _, h => cases h; rfl
  | 19, _, h => cases h; rfl
  | 20, _, h => cases h; rfl
  | 21, _, h => cases h; rfl
theorem zD_self {z : ZZ} {g : St} {sz : Nat} (h : va_D (fun _ => True) (uw z g)) : va_D (zA z sz) (uw z g) :=
  ⟨h.1, fun k q hq => Or.inl ⟨k, uw_ad z g hq⟩⟩
theorem zA_le {z : ZZ} {a b q : Nat} (h : a ≤ b) (hq : zA z b q) : zA z a q := hq.elim Or.inl (fun k => Or.inr (Nat.le_trans h k))
section ZRows
variable {p : Program} {l : Launch} {e : Env} {R : Room} {s : State} {m : MethodId} {args : Array Value} {below : List Frame} {meth : Method} {c : Code} {H H0 : Heap} {locs : List Loc} {cells slots : Nat} {Q : State → Prop} {cc : ByteArray} {pc : Nat} {ls : Array Slot} {rest : List Value} {z : ZZ} {g : St}
theorem zp_L (hx : p.tables.exec = Jvm.exec) (hb : c.code = cc) (hts : ∀ w ∈ zt, w.before args s = true) {own : String} (hown : s.vm.findClass own = some m.cls) (hU : Ws z g H0 H locs s) {i : Nat} (hi : i < 10) {index : Nat} (hlink : (Cond.fieldLink own index R_B "length" "I").before args s = true) {v : Int32} (hdg : decode cc pc = .ok (.putfield index, 3))
    (kk : ∀ (H1 : Heap) (locs1 : List Loc), Ws z (sG g i (v, (g.2.2.2 i).2)) H0 H1 locs1 s → W p l e R s m args below meth c H1 locs1 cells slots Q (F0 m (pc + 3) ls rest)) : W p l e R s m args below meth c H locs cells slots Q (F0 m pc ls (.int v :: .ref (oA z i) :: rest)) := by
  refine va_put (D := z.1) (ci := 2) (v := .int v) (ty := .int) (C := R_B) (T := F_B) (N := 3) hx hb hts in_B t_B t_B_ok n_B hown hU.2.1 hU.1 hU.2.2.1 hU.2.2.2 (2 + 2 * i) (uw_o z g hi) rfl 1 (by decide) hlink (fun _ h9 => h9) rfl (by decide +kernel) rfl rfl (Nat.le_of_ble_eq_true rfl) hdg (fun H1 locs1 hP hD hS => kk H1 locs1 ?_)
  have e := uw_so z g hi v (g.2.2.2 i).2.1
  exact ⟨e ▸ hP, hU.2.1, e ▸ hD, hS⟩
theorem zp_B (hx : p.tables.exec = Jvm.exec) (hb : c.code = cc) (hts : ∀ w ∈ zt, w.before args s = true) {own : String} (hown : s.vm.findClass own = some m.cls) (hU : Ws z g H0 H locs s) {i : Nat} (hi : i < 10) {index : Nat} (hlink : (Cond.fieldLink own index R_B "below" "Z").before args s = true) {v : Int32} (hv : v = 0 ∨ v = 1) (hdg : decode cc pc = .ok (.putfield index, 3))
    (kk : ∀ (H1 : Heap) (locs1 : List Loc), Ws z (sG g i ((g.2.2.2 i).1, v, (g.2.2.2 i).2.2)) H0 H1 locs1 s → W p l e R s m args below meth c H1 locs1 cells slots Q (F0 m (pc + 3) ls rest)) : W p l e R s m args below meth c H locs cells slots Q (F0 m pc ls (.int v :: .ref (oA z i) :: rest)) := by
  refine va_put (D := z.1) (ci := 2) (v := .int v) (ty := .boolean) (C := R_B) (T := F_B) (N := 3) hx hb hts in_B t_B t_B_ok n_B hown hU.2.1 hU.1 hU.2.2.1 hU.2.2.2 (2 + 2 * i) (uw_o z g hi) rfl 2 (by decide) hlink (fun _ h9 => h9) rfl (by decide +kernel) (by rcases hv with rfl | rfl <;> rfl) (by rcases hv with rfl | rfl <;> rfl) (Nat.le_of_ble_eq_true rfl) hdg (fun H1 locs1 hP hD hS => kk H1 locs1 ?_)
  have e := uw_so z g hi (g.2.2.2 i).1 v
  exact ⟨e ▸ hP, hU.2.1, e ▸ hD, hS⟩
theorem zp_K0 (hx : p.tables.exec = Jvm.exec) (hb : c.code = cc) (hts : ∀ w ∈ zt, w.before args s = true) {own : String} (hown : s.vm.findClass own = some m.cls) (hU : Ws z g H0 H locs s) {index : Nat} (hlink : (Cond.fieldLink own index R_K "lastOfLast" "J").before args s = true) {v : Int64} (hdg : decode cc pc = .ok (.putfield index, 3))
    (kk : ∀ (H1 : Heap) (locs1 : List Loc), Ws z (sK g 0 v) H0 H1 locs1 s → W p l e R s m args below meth c H1 locs1 cells slots Q (F0 m (pc + 3) ls rest)) : W p l e R s m args below meth c H locs cells slots Q (F0 m pc ls (.long v :: .ref (kA z) :: rest)) := by
  refine va_put (D := z.1) (ci := 1) (v := .long v) (ty := .long) (C := R_K) (T := F_K) (N := 6) hx hb hts in_K t_K t_K_ok n_K hown hU.2.1 hU.1 hU.2.2.1 hU.2.2.2 1 rfl rfl 2 (by decide) hlink (fun _ h9 => h9) rfl (by decide +kernel) rfl rfl (Nat.le_of_ble_eq_true rfl) hdg (fun H1 locs1 hP hD hS => kk H1 locs1 ?_)
  exact ⟨hP, hU.2.1, hD, hS⟩
theorem zp_K1 (hx : p.tables.exec = Jvm.exec) (hb : c.code = cc) (hts : ∀ w ∈ zt, w.before args s = true) {own : String} (hown : s.vm.findClass own = some m.cls) (hU : Ws z g H0 H locs s) {index : Nat} (hlink : (Cond.fieldLink own index R_K "beforeOfLast" "J").before args s = true) {v : Int64} (hdg : decode cc pc = .ok (.putfield index, 3))
    (kk : ∀ (H1 : Heap) (locs1 : List Loc), Ws z (sK g 1 v) H0 H1 locs1 s → W p l e R s m args below meth c H1 locs1 cells slots Q (F0 m (pc + 3) ls rest)) : W p l e R s m args below meth c H locs cells slots Q (F0 m pc ls (.long v :: .ref (kA z) :: rest)) := by
  refine va_put (D := z.1) (ci := 1) (v := .long v) (ty := .long) (C := R_K) (T := F_K) (N := 6) hx hb hts in_K t_K t_K_ok n_K hown hU.2.1 hU.1 hU.2.2.1 hU.2.2.2 1 rfl rfl 3 (by decide) hlink (fun _ h9 => h9) rfl (by decide +kernel) rfl rfl (Nat.le_of_ble_eq_true rfl) hdg (fun H1 locs1 hP hD hS => kk H1 locs1 ?_)
  exact ⟨hP, hU.2.1, hD, hS⟩
theorem zp_K2 (hx : p.tables.exec = Jvm.exec) (hb : c.code = cc) (hts : ∀ w ∈ zt, w.before args s = true) {own : String} (hown : s.vm.findClass own = some m.cls) (hU : Ws z g H0 H locs s) {index : Nat} (hlink : (Cond.fieldLink own index R_K "lastOfBefore" "J").before args s = true) {v : Int64} (hdg : decode cc pc = .ok (.putfield index, 3))
    (kk : ∀ (H1 : Heap) (locs1 : List Loc), Ws z (sK g 2 v) H0 H1 locs1 s → W p l e R s m args below meth c H1 locs1 cells slots Q (F0 m (pc + 3) ls rest)) : W p l e R s m args below meth c H locs cells slots Q (F0 m pc ls (.long v :: .ref (kA z) :: rest)) := by
  refine va_put (D := z.1) (ci := 1) (v := .long v) (ty := .long) (C := R_K) (T := F_K) (N := 6) hx hb hts in_K t_K t_K_ok n_K hown hU.2.1 hU.1 hU.2.2.1 hU.2.2.2 1 rfl rfl 4 (by decide) hlink (fun _ h9 => h9) rfl (by decide +kernel) rfl rfl (Nat.le_of_ble_eq_true rfl) hdg (fun H1 locs1 hP hD hS => kk H1 locs1 ?_)
  exact ⟨hP, hU.2.1, hD, hS⟩
theorem zp_K3 (hx : p.tables.exec = Jvm.exec) (hb : c.code = cc) (hts : ∀ w ∈ zt, w.before args s = true) {own : String} (hown : s.vm.findClass own = some m.cls) (hU : Ws z g H0 H locs s) {index : Nat} (hlink : (Cond.fieldLink own index R_K "beforeOfBefore" "J").before args s = true) {v : Int64} (hdg : decode cc pc = .ok (.putfield index, 3))
    (kk : ∀ (H1 : Heap) (locs1 : List Loc), Ws z (sK g 3 v) H0 H1 locs1 s → W p l e R s m args below meth c H1 locs1 cells slots Q (F0 m (pc + 3) ls rest)) : W p l e R s m args below meth c H locs cells slots Q (F0 m pc ls (.long v :: .ref (kA z) :: rest)) := by
  refine va_put (D := z.1) (ci := 1) (v := .long v) (ty := .long) (C := R_K) (T := F_K) (N := 6) hx hb hts in_K t_K t_K_ok n_K hown hU.2.1 hU.1 hU.2.2.1 hU.2.2.2 1 rfl rfl 5 (by decide) hlink (fun _ h9 => h9) rfl (by decide +kernel) rfl rfl (Nat.le_of_ble_eq_true rfl) hdg (fun H1 locs1 hP hD hS => kk H1 locs1 ?_)
  exact ⟨hP, hU.2.1, hD, hS⟩
theorem zp_D (hx : p.tables.exec = Jvm.exec) (hb : c.code = cc) (hts : ∀ w ∈ zt, w.before args s = true) {own : String} (hown : s.vm.findClass own = some m.cls) (hU : Ws z g H0 H locs s) {index : Nat} (hlink : (Cond.fieldLink own index R_U "discriminant" "I").before args s = true) {v : Int32} (hdg : decode cc pc = .ok (.putfield index, 3))
    (kk : ∀ (H1 : Heap) (locs1 : List Loc), Ws z (sD g v) H0 H1 locs1 s → W p l e R s m args below meth c H1 locs1 cells slots Q (F0 m (pc + 3) ls rest)) : W p l e R s m args below meth c H locs cells slots Q (F0 m pc ls (.int v :: .ref (mA z) :: rest)) := by
  refine va_put (D := z.1) (ci := 0) (v := .int v) (ty := .int) (C := R_U) (T := F_U) (N := 11) hx hb hts in_U t_U t_U_ok n_U hown hU.2.1 hU.1 hU.2.2.1 hU.2.2.2 0 rfl rfl 9 (by decide) hlink (fun _ h9 => h9) rfl (by decide +kernel) rfl rfl (Nat.le_of_ble_eq_true rfl) hdg (fun H1 locs1 hP hD hS => kk H1 locs1 ?_)
  exact ⟨hP, hU.2.1, hD, hS⟩
theorem zp_R (hx : p.tables.exec = Jvm.exec) (hb : c.code = cc) (hts : ∀ w ∈ zt, w.before args s = true) {own : String} (hown : s.vm.findClass own = some m.cls) (hU : Ws z g H0 H locs s) {index : Nat} (hlink : (Cond.fieldLink own index R_U "ringLength" "I").before args s = true) {v : Int32} (hdg : decode cc pc = .ok (.putfield index, 3))
    (kk : ∀ (H1 : Heap) (locs1 : List Loc), Ws z (sR g v) H0 H1 locs1 s → W p l e R s m args below meth c H1 locs1 cells slots Q (F0 m (pc + 3) ls rest)) : W p l e R s m args below meth c H locs cells slots Q (F0 m pc ls (.int v :: .ref (mA z) :: rest)) := by
  refine va_put (D := z.1) (ci := 0) (v := .int v) (ty := .int) (C := R_U) (T := F_U) (N := 11) hx hb hts in_U t_U t_U_ok n_U hown hU.2.1 hU.1 hU.2.2.1 hU.2.2.2 0 rfl rfl 10 (by decide) hlink (fun _ h9 => h9) rfl (by decide +kernel) rfl rfl (Nat.le_of_ble_eq_true rfl) hdg (fun H1 locs1 hP hD hS => kk H1 locs1 ?_)
  exact ⟨hP, hU.2.1, hD, hS⟩
theorem z_iast (hx : p.tables.exec = Jvm.exec) (hb : c.code = cc) (hU : Ws z g H0 H locs s) {i : Nat} (hi : i < 10) {ix v : Int32} (hin : vp_in ix 512) (hdg : decode cc pc = .ok (.iastore, 1))
    (kk : ∀ (H1 : Heap) (locs1 : List Loc), Ws z (sW g i (upd (g.2.2.2 i).2.2 ix.toNatClampNeg v)) H0 H1 locs1 s → W p l e R s m args below meth c H1 locs1 cells slots Q (F0 m (pc + 1) ls rest)) : W p l e R s m args below meth c H locs cells slots Q (F0 m pc ls (.int v :: .int ix :: .ref (rA z i) :: rest)) := by
  refine va_iast hx hb hU.2.1 hU.1 hU.2.2.1 hU.2.2.2 (3 + 2 * i) i (uw_w z g hi) (zty_a z hi) hin hdg (fun H1 locs1 hP hD hS => kk H1 locs1 ?_)
  have e := uw_sw z g hi (upd (g.2.2.2 i).2.2 ix.toNatClampNeg v)
  exact ⟨e ▸ hP, hU.2.1, e ▸ hD, hS⟩
theorem z_vret {post : St → Prop} {sz : Nat} (hx : p.tables.exec = Jvm.exec) (hb : c.code = cc) (hr : meth.sig.returnType = none) (hlocks : meth.locks = false) (hsz : s.heap.size = sz) (hU : Ws z g s.heap H locs s) (hp : post g) (hdg : decode cc pc = .ok (.return_, 1)) :
    W p l e R s m args below meth c H locs 0 0 (MQ below (va_Qv post (zO z sz) (zA z sz)) args s 0 0 (zA z sz)) (F0 m pc ls []) := by
  subst hsz
  exact W.vret hx hb hr (fun t ht hW => ⟨⟨g, rfl, hp, by rw [ht]; exact hU.1, va_K.moved hW.alike hU.2.1, hU.2.2.1⟩, hU.2.2.2.F ht⟩) hU.2.2.2.2.2 hdg
theorem z_iret {post : Int32 → St → Prop} {sz : Nat} {v : Int32} (hx : p.tables.exec = Jvm.exec) (hb : c.code = cc) (hr : meth.sig.returnType = some .int) (hlocks : meth.locks = false) (hsz : s.heap.size = sz) (hU : Ws z g s.heap H locs s) (hp : post v g) (hdg : decode cc pc = .ok (.ireturn, 1)) :
    W p l e R s m args below meth c H locs 0 0 (MQ below (va_Qi post (zO z sz) (zA z sz)) args s 0 0 (zA z sz)) (F0 m pc ls [.int v]) := by
  subst hsz
  exact W.iret hx hb hr (fun t ht hW => ⟨⟨v, g, rfl, hp, by rw [ht]; exact hU.1, va_K.moved hW.alike hU.2.1, hU.2.2.1⟩, hU.2.2.2.F ht⟩) hU.2.2.2.2.2 hdg
theorem z_zret {post : Int32 → St → Prop} {sz : Nat} {v : Int32} (hx : p.tables.exec = Jvm.exec) (hb : c.code = cc) (hr : meth.sig.returnType = some .boolean) (hlocks : meth.locks = false) (hsz : s.heap.size = sz) (hU : Ws z g s.heap H locs s) (hv : v = 0 ∨ v = 1) (hp : post v g) (hdg : decode cc pc = .ok (.ireturn, 1)) :
    W p l e R s m args below meth c H locs 0 0 (MQ below (va_Qi post (zO z sz) (zA z sz)) args s 0 0 (zA z sz)) (F0 m pc ls [.int v]) := by
  subst hsz
  exact W.zret hx hb hr (by rcases hv with rfl | rfl <;> rfl) (fun t ht hW => ⟨⟨v, g, rfl, hp, by rw [ht]; exact hU.1, va_K.moved hW.alike hU.2.1, hU.2.2.1⟩, hU.2.2.2.F ht⟩) hU.2.2.2.2.2 hdg
theorem z_lret {post : Int64 → St → Prop} {sz : Nat} {v : Int64} (hx : p.tables.exec = Jvm.exec) (hb : c.code = cc) (hr : meth.sig.returnType = some .long) (hlocks : meth.locks = false) (hsz : s.heap.size = sz) (hU : Ws z g s.heap H locs s) (hp : post v g) (hdg : decode cc pc = .ok (.lreturn, 1)) :
    W p l e R s m args below meth c H locs 0 0 (MQ below (va_Ql post (zO z sz) (zA z sz)) args s 0 0 (zA z sz)) (F0 m pc ls [.long v]) := by
  subst hsz
  exact W.lret hx hb hr (fun t ht hW => ⟨⟨v, g, rfl, hp, by rw [ht]; exact hU.1, va_K.moved hW.alike hU.2.1, hU.2.2.1⟩, hU.2.2.2.F ht⟩) hU.2.2.2.2.2 hdg
end ZRows
abbrev zw (y : MethodName) (b : ByteArray) (n : Nat) (r : Option FieldType) : List Cond := Cond.code y b n r :: zt
theorem z_ofW {l : Launch} {y : MethodName} {cc : ByteArray} {maxL : Nat} {ret : Option FieldType} {rm : Room} {z : ZZ} {g : St} {sz : Nat} {vs : List Value} {Qc : Array Value → State → Outcome → State → Prop} (hy : plainName y.cls = true) (hlen : (lg_sl vs).length ≤ maxL)
    (body : ∀ (p : Program) (e : Env) (s : State) (m : MethodId) (below : List Frame) (meth : Method) (c : Code), p.tables.exec = Jvm.exec → c.code = cc → meth.sig.returnType = ret → c.maxLocals = maxL → s.vm.findClass y.cls = some m.cls → (∀ w ∈ zt, w.before vs.toArray s = true) → meth.locks = false → meth.name = y.name → s.heap.size = sz → zN s →
      ∀ ls, Ws z g s.heap s.heap [] s → lv_has ls maxL (lv_args 0 vs) → W p l e rm s m vs.toArray below meth c s.heap [] 0 0 (MQ below Qc vs.toArray s 0 0 (zA z sz)) (F0 m 0 ls [])) :
    Met l y (zw y cc maxL ret) rm (va_Pc vs (zI z g sz)) Qc 0 0 (zA z sz) := by
  refine Met.ofW (cc := cc) (maxL := maxL) (ret := ret) hy rfl ?_
  intro p e s m args below meth c s₁ B hml hv
  obtain ⟨rfl, hsz, hP, hK, hD0, hN⟩ := hv
  have hts := atoms_spec (ws := zw y cc maxL ret) B.pre
  have hown : s.vm.findClass y.cls = some m.cls := findClass_of_methodNamed B.named
  have hl := lv_entry vs (n := maxL) hlen
  rw [lg_entry_eq]
  exact body p e s m below meth c B.exec B.bytes B.returns hml hown (fun w hw => hts w (List.mem_cons_of_mem _ hw)) B.notSynchronized (name_of_methodNamed B.named B.method).1 hsz hN _ ⟨hP, hK, zD_self hD0, va_S.rf⟩ hl
