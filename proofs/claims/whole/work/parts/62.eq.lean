/-! the class and the reference hold the same numbers -/
theorem wkS_mod (D r : Nat) : ∀ (f b c k L B L' B' : Nat), L' = L % MM → B' = B % MM → (wkS D r f b c k L' B').1 = (wkZ D r f b c k L B).1 ∧ (wkS D r f b c k L' B').2.1 = (wkZ D r f b c k L B).2.1 % MM ∧ (wkS D r f b c k L' B').2.2 = (wkZ D r f b c k L B).2.2 % MM := by
  intro f
  induction f with
  | zero => intro b c k L B L' B' h1 h2; exact ⟨rfl, h1, h2⟩
  | succ f ih =>
    intro b c k L B L' B' h1 h2
    rw [wkS, wkZ]
    by_cases w : c ≤ 1
    · rw [if_pos w, if_pos w]; exact ⟨rfl, h1, h2⟩
    · rw [if_neg w, if_neg w]
      refine ih _ _ _ _ _ _ _ ?_ h1
      rw [h1, h2]
      generalize (b + r) / (2 * c) = q
      generalize MM = M
      rw [Nat.add_mod, Nat.mul_mod, Nat.mod_mod, Nat.mod_mod, ← Nat.mul_mod, ← Nat.add_mod]
theorem BB_lt_MM {n : Nat} (h : n < BB) : n < MM := by
  have := BB_MM
  generalize BB = X at h this
  generalize MM = Y at this
  omega
theorem uA_uZ {D : Nat} (hd : dOk D) (hnt : NTok D) : uA D = uZ D := by
  have hB := hnt.2
  have hp := (pre_red hd).2.2.2.2.1
  have h1 := hd.2.1
  have hf : 1 ≤ fB D := by
    generalize fB D = x at hp
    generalize rt D = y at hp h1
    omega
  obtain ⟨hLB, hTB, hTL, hTT, hBB, -⟩ := bd_core (f := fB D) (L := (wz D).2.1) (b := (wz D).2.2) hf hB rfl
  obtain ⟨e1, e2, e3⟩ := wkS_mod D (rt D) 999999 (fB D) (fC D) 1 1 0 1 0 (Nat.mod_eq_of_lt (by rw [MM_def]; decide +kernel)).symm (Nat.zero_mod _).symm
  have f1 : (wk D).1 = (wz D).1 := e1
  have f2 : (wk D).2.1 = (wz D).2.1 := e2.trans (Nat.mod_eq_of_lt (BB_lt_MM hLB))
  have f3 : (wk D).2.2 = (wz D).2.2 := e3.trans (Nat.mod_eq_of_lt (BB_lt_MM hBB))
  have f4 : uaT D = zT D := by
    unfold uaT
    rw [f2, f3]
    exact Nat.mod_eq_of_lt (BB_lt_MM hTB)
  unfold uA uZ
  rw [f1, f2, f4, Nat.mod_eq_of_lt (BB_lt_MM hTT), Nat.mod_eq_of_lt (BB_lt_MM hB), Nat.mod_eq_of_lt (BB_lt_MM hTL)]
theorem uO_uW {d : Int} (hd : tk d) (hnt : ∀ D, dOk D → NTok D) : uO d = uW d := by
  unfold uO uW
  by_cases q : 0 < d
  · rw [if_pos q, if_pos q]
    have hdn : ((d.toNat : Nat) : Int) = d := by omega
    have hdo : dOk d.toNat := tk_dOk (by rw [hdn]; exact hd) (by omega)
    exact uA_uZ hdo (hnt _ hdo)
  · rw [if_neg q, if_neg q]
theorem par_core {f L b D T : Nat} (hf : f % 2 = D % 2) (hT : T = f * L + 2 * b) : T % 2 = D * L % 2 ∧ (T * T + 2) % 2 = D * (T * L) % 2 := by
  have h1 : T % 2 = D * L % 2 := by
    rw [hT, Nat.add_mul_mod_self_left, Nat.mul_mod, hf, ← Nat.mul_mod]
  refine ⟨h1, ?_⟩
  have h2 : T * T % 2 = T * (D * L) % 2 := by rw [Nat.mul_mod T T, Nat.mul_mod T (D * L), ← h1]
  rw [Nat.add_mod_right, h2, Nat.mul_left_comm]
theorem uW_par {d : Int} (hd : tk d) : ((uW d).1 : Int) % 2 = d * ((uW d).2.1 : Int) % 2 := by
  unfold uW
  by_cases q : 0 < d
  · rw [if_pos q]
    obtain ⟨D, rfl⟩ : ∃ D : Nat, d = (D : Int) := ⟨d.toNat, by omega⟩
    have hdo : dOk D := tk_dOk hd (by omega)
    rw [show (D : Int).toNat = D from rfl]
    have hm : fB D % 2 = D % 2 := by have := hdo.2.1; unfold fB; split <;> omega
    obtain ⟨p1, p2⟩ := par_core (L := (wz D).2.1) (b := (wz D).2.2) (T := zT D) hm rfl
    unfold uZ
    split
    · show ((zT D * zT D + 2 : Nat) : Int) % 2 = (D : Int) * ((zT D * (wz D).2.1 : Nat) : Int) % 2
      rw [← Int.natCast_mul]
      exact congrArg (Nat.cast (R := Int)) p2
    · show ((zT D : Nat) : Int) % 2 = (D : Int) * (((wz D).2.1 : Nat) : Int) % 2
      rw [← Int.natCast_mul]
      exact congrArg (Nat.cast (R := Int)) p1
  · rw [if_neg q]
    obtain ⟨a1, a2, a3, a4⟩ := hd
    show ((tB d : Nat) : Int) % 2 = d * ((uB d : Nat) : Int) % 2
    unfold tB uB
    by_cases w : d < -4
    · rw [if_pos w, if_neg (by omega), if_neg (by omega), Int.natCast_zero, Int.mul_zero]; rfl
    · rw [if_neg w]
      rcases (show d = -4 ∨ d = -3 ∨ d = 0 by omega) with v | v | v
      · rw [v]; rfl
      · rw [v]; rfl
      · exfalso; apply a4; rw [v]; decide
/-- a form that fits D -/
def fO (d a b c : Int) : Prop := szOk a b c ∧ b % 2 = d % 2
theorem fO_ak {d a b c : Int} (h : akOk d a b c) : fO d a b c := by
  obtain ⟨h1, h2, -⟩ := h
  refine ⟨h1, ?_⟩
  have h3 : 4 * a * c = 2 * (2 * (a * c)) := by
    rw [Int.mul_assoc, ← Int.mul_assoc 2 2 (a * c)]; rfl
  have h4 : (b * b) % 2 = b % 2 := by
    rw [Int.mul_emod]
    rcases (show b % 2 = 0 ∨ b % 2 = 1 by omega) with w | w <;> rw [w] <;> rfl
  rw [h3] at h2
  generalize a * c = x at *
  generalize b * b = y at *
  omega
theorem fO_first {d : Int} (h : tk d) : fO d 1 (d % 2) ((d % 2 - d) / 4) := by
  obtain ⟨a1, a2, a3, a4⟩ := h
  refine ⟨⟨⟨by omega, by omega⟩, ⟨by omega, by omega⟩, ⟨by omega, by omega⟩⟩, by omega⟩
theorem amX_eq {u : Nat} {k : Int} (hu : u < BB) (h1 : -1073741824 ≤ k) (h2 : k ≤ 1073741824) : amX u k = k.natAbs * u ∧ k.natAbs * u < 1073741825 * BB := by
  have hk : k.natAbs ≤ 1073741824 := by omega
  have h3 : k.natAbs * u ≤ 1073741824 * u := Nat.mul_le_mul_right _ hk
  have h4 := BB_MM
  have h5 : k.natAbs * u < 1073741825 * BB := by
    generalize k.natAbs * u = x at h3 ⊢
    generalize BB = X at hu ⊢
    omega
  refine ⟨Nat.mod_eq_of_lt ?_, h5⟩
  generalize k.natAbs * u = x at h5 ⊢
  generalize BB = X at h4 h5
  generalize MM = Y at h4 ⊢
  omega
theorem abs_mul {u : Nat} {k : Int} : ((k.natAbs * u : Nat) : Int) = (if k < 0 then -(k * (u : Int)) else k * (u : Int)) := by
  rw [Int.natCast_mul]
  split
  · rw [show ((k.natAbs : Nat) : Int) = -k by omega, Int.neg_mul]
  · rw [show ((k.natAbs : Nat) : Int) = k by omega]
theorem amT_eq {u : Nat} {k : Int} (hu : u < BB) (h1 : -1073741824 ≤ k) (h2 : k ≤ 1073741824) : amT u k = k * (u : Int) := by
  obtain ⟨e, -⟩ := amX_eq hu h1 h2
  unfold amT
  rw [e, abs_mul]
  split
  · exact Int.neg_neg _
  · rfl
theorem even_par {t x : Int} {d b : Int} {u : Nat} (hx : x = b * (u : Int)) (hp : t % 2 = d * (u : Int) % 2) (hb : b % 2 = d % 2) : (t - x) % 2 = 0 := by
  have h : x % 2 = d * (u : Int) % 2 := by rw [hx, Int.mul_emod, hb, ← Int.mul_emod]
  omega
theorem amD_eq {t u : Nat} {b d : Int} (ht : t < BB) (hu : u < BB) (h1 : -1073741824 ≤ b) (h2 : b ≤ 1073741824) (hp : (t : Int) % 2 = d * (u : Int) % 2) (hb : b % 2 = d % 2) : amD t u b = ((t : Int) - (if b < 0 then -(b * (u : Int)) else b * (u : Int))) / 2 := by
  obtain ⟨e, -⟩ := amX_eq hu h1 h2
  have hE := even_par (t := (t : Int)) rfl hp hb
  have ha := abs_mul (u := u) (k := b)
  unfold amD
  rw [e]
  generalize b.natAbs * u = x at ha ⊢
  rw [← ha]
  have hE2 : ((t : Int) - (x : Int)) % 2 = 0 := by
    generalize b * (u : Int) = y at ha hE
    split at ha <;> omega
  split <;> omega
theorem amS_eq {t u : Nat} {b : Int} (ht : t < BB) (hu : u < BB) (h1 : -1073741824 ≤ b) (h2 : b ≤ 1073741824) : amS t u b = ((t : Int) + (if b < 0 then -(b * (u : Int)) else b * (u : Int))) / 2 := by
  obtain ⟨e, hl⟩ := amX_eq hu h1 h2
  have h4 := BB_MM
  unfold amS
  rw [e, Nat.mod_eq_of_lt (by
    generalize b.natAbs * u = x at hl ⊢
    generalize BB = X at h4 hl ht
    generalize MM = Y at h4 ⊢
    omega), ← abs_mul]
  generalize b.natAbs * u = x
  omega
theorem st_eq {g : St} {h : SM} {d a b c : Int} (hd : tk d) (hf : fO d a b c) (hnt : ∀ D, dOk D → NTok D) (hc : cS g d a b c) (hm : mS h d a b c) : ∀ i, i < 8 → bOk (g.2.2.2 i) ∧ bz (g.2.2.2 i) = sv h.2.2.2.2.2 i := by
  obtain ⟨⟨⟨f1, f2⟩, ⟨f3, f4⟩, ⟨f5, f6⟩⟩, f7⟩ := hf
  obtain ⟨c1, c2, ⟨n0, n1, n6, n7⟩, ⟨o2, o3, o4, o5⟩, z2, z3, z4, z5⟩ := hc
  obtain ⟨m1, m2, m3, m4, ⟨m5, m6, m7, m8⟩, m9, m10, m11, m12⟩ := hm
  obtain ⟨b1, b2⟩ := uW_bd hd hnt
  have hp := uW_par hd
  rw [uO_uW hd hnt] at c2 n0 n1 n6 n7 z2 z3 z4 z5
  have hz : ∀ {x : BS} {n : Nat}, bOk x ∧ x.2.1 = 0 ∧ bv x = n → bz x = (n : Int) := fun {x n} q => by
    unfold bz
    rw [if_pos q.2.1, q.2.2]
  rw [amT_eq b2 (by omega) (by omega)] at z3
  rw [amT_eq b2 (by omega) (by omega)] at z4
  rw [amS_eq b1 b2 f3 f4, amD_eq b1 b2 f3 f4 hp f7] at z2 z5
  intro i hi
  rcases (show i = 0 ∨ i = 1 ∨ i = 2 ∨ i = 3 ∨ i = 4 ∨ i = 5 ∨ i = 6 ∨ i = 7 by omega) with w | w | w | w | w | w | w | w <;> subst w
  · exact ⟨n0.1, (hz n0).trans m5.symm⟩
  · exact ⟨n1.1, (hz n1).trans m6.symm⟩
  · refine ⟨o2, z2.trans (Eq.trans ?_ m9.symm)⟩
    split
    · rfl
    · rfl
  · exact ⟨o3, z3.trans m10.symm⟩
  · exact ⟨o4, z4.trans m11.symm⟩
  · refine ⟨o5, z5.trans (Eq.trans ?_ m12.symm)⟩
    split
    · rw [Int.sub_neg]
    · rfl
  · exact ⟨n6.1, (hz n6).trans m7.symm⟩
  · exact ⟨n7.1, (hz n7).trans m8.symm⟩
theorem st_cnt {g : St} {h : SM} {d a b c : Int} (hd : tk d) (hnt : ∀ D, dOk D → NTok D) (hc : cS g d a b c) (hm : mS h d a b c) (w9 : Int32) : cnt w9 g.1.toInt g.2.1 (if bv (g.2.2.2 7) = 0 then 0 else 1) = cnt w9 h.2.1.toInt h.2.2.1 h.2.2.2.1 := by
  obtain ⟨c1, c2, ⟨n0, n1, n6, n7⟩, -⟩ := hc
  obtain ⟨m1, m2, m3, -⟩ := hm
  rw [uO_uW hd hnt] at c2 n7
  rw [c1, m1, c2, m2, m3, n7.2.2]
  congr 1
  unfold uW mf
  by_cases q : 0 < d
  · rw [if_pos q, if_pos q]
    have hdn : ((d.toNat : Nat) : Int) = d := by omega
    have hdo : dOk d.toNat := tk_dOk (by rw [hdn]; exact hd) (by omega)
    unfold uZ
    by_cases w : (wz d.toNat).1 % 2 = 1
    · rw [if_pos w, if_pos w]
      have h1 : 1 ≤ (wz d.toNat).2.1 := wkZ_ge hdo.2.2.2.1 hdo.2.2.2.2.1 999999 1 _ _ 1 1 0 (first_red hdo)
      show (if (wz d.toNat).2.1 = 0 then (0 : Int32) else 1) = 1
      rw [if_neg (by omega)]
    · rw [if_neg w, if_neg w]; rfl
  · rw [if_neg q, if_neg q]; rfl
theorem mf_01 (d : Int) : mf d = 0 ∨ mf d = 1 := by
  unfold mf
  split
  · split
    · exact Or.inr rfl
    · exact Or.inl rfl
  · exact Or.inl rfl
theorem bz_abs (b : BS) : (bz b).natAbs = bv b := by
  unfold bz
  split <;> omega
theorem bz_sign {b : BS} (h : bOk b) : (bsg b).toInt = (bz b).sign := by
  unfold bsg bz
  by_cases w : bv b = 0
  · rw [if_pos w, w]; split <;> rfl
  · rw [if_neg w]
    split
    · rw [Int.sign_eq_one_of_pos (by omega)]; rfl
    · rw [Int.sign_eq_neg_one_of_neg (by omega)]; rfl
