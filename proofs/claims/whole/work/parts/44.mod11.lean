/-! count -/
theorem sw_3 (x : Int32) : x = 0 ∨ x = 1 ∨ x = 2 ∨ x = 3 ∨ (x.toInt < 0 ∨ 3 < x.toInt) := by
  have h : ∀ n : Nat, n < 8 → x.toInt = (n : Int) → x = nI n := fun n hn h => by apply Int32.toInt_inj.mp; rw [nI_toInt (by omega)]; exact h
  rcases Int.lt_or_le x.toInt 0 with q | q
  · exact Or.inr (Or.inr (Or.inr (Or.inr (Or.inl q))))
  rcases Int.lt_or_le 3 x.toInt with w | w
  · exact Or.inr (Or.inr (Or.inr (Or.inr (Or.inr w))))
  rcases (show x.toInt = (0 : Nat) ∨ x.toInt = (1 : Nat) ∨ x.toInt = (2 : Nat) ∨ x.toInt = (3 : Nat) by omega) with a | a | a | a
  · exact Or.inl (h 0 (by decide) a)
  · exact Or.inr (Or.inl (h 1 (by decide) a))
  · exact Or.inr (Or.inr (Or.inl (h 2 (by decide) a)))
  · exact Or.inr (Or.inr (Or.inr (Or.inl (h 3 (by decide) a))))
/-- how many units -/
def nU (d : Int) : Int32 := if 0 < d then -1 else if d = -3 then 6 else if d = -4 then 4 else 2
/-- what count answers of a state with D, ring, flag -/
def cnt (w : Int32) (d : Int) (r f : Int32) : Int32 := if w = 0 then Int32.ofInt d else if w = 1 then r else if w = 2 then f else if w = 3 then nU d else -1
theorem l2i_ofInt (x : Int64) : x.toInt32 = Int32.ofInt x.toInt := by rw [Int32.ofInt_int64ToInt]
set_option maxHeartbeats 4000000 in
set_option maxRecDepth 100000 in
theorem cm_count (l : Launch) (z : YM) (sz : Nat) (g : SM) (w9 : Int32) (hN : g.2.2.2.1 = 0 ∨ g.2.2.2.1 = 1) : Met l y_M_count (zw y_M_count b_M_count 2 (some .int)) { frames := 0, cells := 0, slots := 0, locals := 0 } (va_Pc [.ref (oM z), .int w9] (mI z g sz)) (va_Qi (fun r g2 => g2 = mC g 0 ∧ r = cnt w9 g.2.1.toInt g.2.2.1 g.2.2.2.1) (mO z sz) (yA z sz)) 0 0 (yA z sz) := by
  refine m_ofW (by decide) (Nat.le_of_ble_eq_true rfl) (fun p e s m below meth c hx hb hr hml hown hts hlocks hname hsz ls hU hl => ?_)
  have hl : lv_has ls 2 [(0, .ref (oM z)), (1, .int w9)] := hl
  refine lv_aload_n hx hb d_M_count_0 rfl (lv_at hl 0 rfl) ?_
  refine lv_iconst (v := 0) hx hb d_M_count_1 (by decide) ?_
  refine mp_C hx hb hts hown hU (hts _ k_M_23) d_M_count_2 (fun H locs hU => ?_)
  generalize eg2 : mC g 0 = g2 at hU
  refine lv_iload_n hx hb d_M_count_5 rfl (lv_at hl 1 rfl) ?_
  rcases sw_3 w9 with w | w | w | w | w
  · refine lv_tableIn hx hb d_M_count_6 (by rw [w]; decide) (by rw [w]; decide) (off := 30) (by rw [w]; rfl) (tgt := 36) (by decide) ?_
    refine lv_aload_n hx hb d_M_count_36 rfl (lv_at hl 0 rfl) ?_
    refine va_get (D := z.1) (ci := 3) (v := .long g2.2.1) (C := R_M) (T := F_M) (N := 9) hx hb hts in_M hown hU.2.1 hU.1 0 rfl rfl 1 (by decide) (hts _ k_M_9) (fun _ h9 => h9) rfl d_M_count_37 ?_
    refine lv_topl (fun x37 ex37 => ?_)
    refine lv_l2i hx hb d_M_count_40 rfl ?_
    refine lv_topi (fun x40 ex40 => ?_)
    exact m_iret hx hb hr hlocks hsz hU ⟨by first | exact eg2.symm | rfl, by rw [ex40, ex37, ← eg2, w]; exact l2i_ofInt _⟩ d_M_count_41
  · refine lv_tableIn hx hb d_M_count_6 (by rw [w]; decide) (by rw [w]; decide) (off := 36) (by rw [w]; rfl) (tgt := 42) (by decide) ?_
    refine lv_aload_n hx hb d_M_count_42 rfl (lv_at hl 0 rfl) ?_
    refine va_get (D := z.1) (ci := 3) (v := .int g2.2.2.1) (C := R_M) (T := F_M) (N := 9) hx hb hts in_M hown hU.2.1 hU.1 0 rfl rfl 2 (by decide) (hts _ k_M_41) (fun _ h9 => h9) rfl d_M_count_43 ?_
    refine lv_topi (fun x43 ex43 => ?_)
    exact m_iret hx hb hr hlocks hsz hU ⟨by first | exact eg2.symm | rfl, by rw [ex43, ← eg2, w]; rfl⟩ d_M_count_46
  · refine lv_tableIn hx hb d_M_count_6 (by rw [w]; decide) (by rw [w]; decide) (off := 41) (by rw [w]; rfl) (tgt := 47) (by decide) ?_
    refine lv_aload_n hx hb d_M_count_47 rfl (lv_at hl 0 rfl) ?_
    refine va_get (D := z.1) (ci := 3) (v := .int g2.2.2.2.1) (C := R_M) (T := F_M) (N := 9) hx hb hts in_M hown hU.2.1 hU.1 0 rfl rfl 3 (by decide) (hts _ k_M_44) (fun _ h9 => h9) rfl d_M_count_48 ?_
    refine lv_topi (fun x48 ex48 => ?_)
    have e48 : x48 = g.2.2.2.1 := by rw [ex48, ← eg2]; rfl
    refine lv_if_eq (tgt := 58) hx hb d_M_count_51 (by decide) (fun c51 => ?_) (fun c51 => ?_)
    · refine lv_iconst (v := 0) hx hb d_M_count_58 (by decide) ?_
      have q : g.2.2.2.1 = 0 := e48.symm.trans c51
      exact m_iret hx hb hr hlocks hsz hU ⟨by first | exact eg2.symm | rfl, by rw [w, q]; rfl⟩ d_M_count_59
    · refine lv_iconst (v := 1) hx hb d_M_count_54 (by decide) ?_
      refine lv_goto (tgt := 59) hx hb d_M_count_55 (by decide) ?_
      have q : g.2.2.2.1 = 1 := hN.resolve_left fun q => c51 (e48.trans q)
      exact m_iret hx hb hr hlocks hsz hU ⟨by first | exact eg2.symm | rfl, by rw [w, q]; rfl⟩ d_M_count_59
  · refine lv_tableIn hx hb d_M_count_6 (by rw [w]; decide) (by rw [w]; decide) (off := 54) (by rw [w]; rfl) (tgt := 60) (by decide) ?_
    have hd2 : ∀ x : Int64, x = g2.2.1 → x.toInt = g.2.1.toInt := fun x hx => by rw [hx, ← eg2]; rfl
    obtain ⟨dd, edd⟩ : ∃ dd, dd = g.2.1.toInt := ⟨_, rfl⟩
    have hfin : ∀ r : Int32, r = nU dd → r = cnt w9 g.2.1.toInt g.2.2.1 g.2.2.2.1 := fun r hr => by rw [hr, w, edd]; rfl
    refine lv_aload_n hx hb d_M_count_60 rfl (lv_at hl 0 rfl) ?_
    refine va_get (D := z.1) (ci := 3) (v := .long g2.2.1) (C := R_M) (T := F_M) (N := 9) hx hb hts in_M hown hU.2.1 hU.1 0 rfl rfl 1 (by decide) (hts _ k_M_9) (fun _ h9 => h9) rfl d_M_count_61 ?_
    refine lv_topl (fun x61 ex61 => ?_)
    refine lv_lconst (v := 0) hx hb d_M_count_64 (by decide) ?_
    refine W.lcmp hx hb d_M_count_65 ?_
    have u61 := hd2 x61 ex61
    rw [← edd] at u61
    refine lv_if_le (tgt := 73) hx hb d_M_count_66 (by decide) (fun c66 => ?_) (fun c66 => ?_)
    · have h66 : ¬ 0 < dd := by
        have q := (lg_cmp_le _ _).mp c66
        rw [Int64.le_iff_toInt_le, Int64.toInt_zero, u61] at q
        omega
      refine lv_aload_n hx hb d_M_count_73 rfl (lv_at hl 0 rfl) ?_
      refine va_get (D := z.1) (ci := 3) (v := .long g2.2.1) (C := R_M) (T := F_M) (N := 9) hx hb hts in_M hown hU.2.1 hU.1 0 rfl rfl 1 (by decide) (hts _ k_M_9) (fun _ h9 => h9) rfl d_M_count_74 ?_
      refine lv_topl (fun x74 ex74 => ?_)
      refine lv_ldc2 (v := (-3)) hx hb hown (hts _ k_M_52) d_M_count_77 ?_
      refine W.lcmp hx hb d_M_count_80 ?_
      have u74 := hd2 x74 ex74
      rw [← edd] at u74
      refine lv_if_ne (tgt := 89) hx hb d_M_count_81 (by decide) (fun c81 => ?_) (fun c81 => ?_)
      · have h81 : ¬ dd = -3 := fun q => c81 ((lg_cmp_eq _ _).mpr (Int64.toInt_inj.mp (by rw [u74, q]; rfl)))
        refine lv_aload_n hx hb d_M_count_89 rfl (lv_at hl 0 rfl) ?_
        refine va_get (D := z.1) (ci := 3) (v := .long g2.2.1) (C := R_M) (T := F_M) (N := 9) hx hb hts in_M hown hU.2.1 hU.1 0 rfl rfl 1 (by decide) (hts _ k_M_9) (fun _ h9 => h9) rfl d_M_count_90 ?_
        refine lv_topl (fun x90 ex90 => ?_)
        refine lv_ldc2 (v := (-4)) hx hb hown (hts _ k_M_7) d_M_count_93 ?_
        refine W.lcmp hx hb d_M_count_96 ?_
        have u90 := hd2 x90 ex90
        rw [← edd] at u90
        refine lv_if_ne (tgt := 104) hx hb d_M_count_97 (by decide) (fun c97 => ?_) (fun c97 => ?_)
        · have h97 : ¬ dd = -4 := fun q => c97 ((lg_cmp_eq _ _).mpr (Int64.toInt_inj.mp (by rw [u90, q]; rfl)))
          refine lv_iconst (v := 2) hx hb d_M_count_104 (by decide) ?_
          exact m_iret hx hb hr hlocks hsz hU ⟨by first | exact eg2.symm | rfl, hfin _ (by rw [nU, if_neg h66, if_neg h81, if_neg h97])⟩ d_M_count_105
        · have h97 : dd = -4 := by
            have q := (lg_cmp_eq _ _).mp c97
            rw [← u90, q]; rfl
          refine lv_iconst (v := 4) hx hb d_M_count_100 (by decide) ?_
          refine lv_goto (tgt := 105) hx hb d_M_count_101 (by decide) ?_
          exact m_iret hx hb hr hlocks hsz hU ⟨by first | exact eg2.symm | rfl, hfin _ (by rw [nU, if_neg h66, if_neg h81, if_pos h97])⟩ d_M_count_105
      · have h81 : dd = -3 := by
          have q := (lg_cmp_eq _ _).mp c81
          rw [← u74, q]; rfl
        refine lv_bipush (v := 6) hx hb d_M_count_84 (by decide) ?_
        refine lv_goto (tgt := 105) hx hb d_M_count_86 (by decide) ?_
        exact m_iret hx hb hr hlocks hsz hU ⟨by first | exact eg2.symm | rfl, hfin _ (by rw [nU, if_neg h66, if_pos h81])⟩ d_M_count_105
    · have h66 : 0 < dd := by
        have q : ¬ x61 ≤ (0 : Int64) := fun q => c66 ((lg_cmp_le _ _).mpr q)
        rw [Int64.le_iff_toInt_le, Int64.toInt_zero, u61] at q
        omega
      refine lv_iconst (v := (-1)) hx hb d_M_count_69 (by decide) ?_
      refine lv_goto (tgt := 105) hx hb d_M_count_70 (by decide) ?_
      exact m_iret hx hb hr hlocks hsz hU ⟨by first | exact eg2.symm | rfl, hfin _ (by rw [nU, if_pos h66])⟩ d_M_count_105
  · refine lv_tableOut hx hb d_M_count_6 (tgt := 106) w (by decide) ?_
    refine lv_iconst (v := (-1)) hx hb d_M_count_106 (by decide) ?_
    have n0 : ¬ w9 = 0 := fun q => by rw [q] at w; exact absurd w (by decide)
    have n1 : ¬ w9 = 1 := fun q => by rw [q] at w; exact absurd w (by decide)
    have n2 : ¬ w9 = 2 := fun q => by rw [q] at w; exact absurd w (by decide)
    have n3 : ¬ w9 = 3 := fun q => by rw [q] at w; exact absurd w (by decide)
    exact m_iret hx hb hr hlocks hsz hU ⟨by first | exact eg2.symm | rfl, by rw [cnt, if_neg n0, if_neg n1, if_neg n2, if_neg n3]⟩ d_M_count_107
