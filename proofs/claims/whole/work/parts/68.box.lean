/-! boxes -/
def M_box (σ τ : St) : Prop := ∃ n, n ≤ 6 ∧ σ.1 1003 = nI n ∧ τ.1 83 = nI n ∧ σ.2.1 65 = τ.2.1 57 ∧ σ.2.1 66 = τ.2.1 58 ∧ σ.2.1 67 = τ.2.1 59 ∧ Bn 9999 (σ.2.1 65) ∧ Bn 999 (σ.2.1 66) ∧ Bn 99 (σ.2.1 67)
def M_esc (σ τ : St) : Prop := (σ.2.1 69 = τ.2.1 61 ∧ σ.2.1 70 = τ.2.1 62) ∧ ((τ.1 88 = 0 ∧ σ.1 1007 = -1000000000 ∧ σ.1 1008 = 0) ∨ (τ.1 88 = 1 ∧ σ.1 1007 = τ.1 90 ∧ ∃ n, n ≤ 6 ∧ σ.1 1008 = nI n ∧ τ.1 89 = nI n))
theorem o_box (x y z : Int32) {σ τ : St} (h : M_box σ τ) : Op (f_X10_box x y z σ) (f_X11_box x y z τ) M_box ([1003], [65, 66, 67], []) ([83], [57, 58, 59], []) σ τ := by
  obtain ⟨n, hn, h1, h2, a1, a2, a3, b1, b2, b3⟩ := id h
  have e1 := nI_toInt (show n < 2 ^ 31 by omega)
  by_cases hg : n < 6 ∧ (0 ≤ x.toInt ∧ x.toInt ≤ 9999) ∧ (0 ≤ y.toInt ∧ y.toInt ≤ 999) ∧ (0 ≤ z.toInt ∧ z.toInt ≤ 99)
  · obtain ⟨g0, g1, g2, g3⟩ := hg
    obtain ⟨ix, hx, rfl⟩ := nI_btw (n := 9999) g1.1 g1.2
    obtain ⟨iy, hy, rfl⟩ := nI_btw (n := 999) g2.1 g2.2
    obtain ⟨iz, hz, rfl⟩ := nI_btw (n := 99) g3.1 g3.2
    have ex := nI_toInt (show ix < 2 ^ 31 by omega)
    have ey := nI_toInt (show iy < 2 ^ 31 by omega)
    have ez := nI_toInt (show iz < 2 ^ 31 by omega)
    refine ⟨nI n, sF (sA (sA (sA σ 65 n (nI ix)) 66 n (nI iy)) 67 n (nI iz)) 1003 (nI (n + 1)), sF (sA (sA (sA τ 57 n (nI ix)) 58 n (nI iy)) 59 n (nI iz)) 83 (nI (n + 1)), ?_, ?_, ⟨n + 1, g0, rfl, rfl, congrArg (upd · n (nI ix)) a1, congrArg (upd · n (nI iy)) a2, congrArg (upd · n (nI iz)) a3, b1.upd n hx, b2.upd n hy, b3.upd n hz⟩, (((Fr.rf.wA (by decide)).wA (by decide)).wA (by decide)).wF (by decide), (((Fr.rf.wA (by decide)).wA (by decide)).wA (by decide)).wF (by decide)⟩
    · unfold f_X10_box f_X0_add
      simp only [lies0, in0, wdL, side0, author0, minute0, year0, week0, cell0, mside0, mminute0, myear0, mweek0, mship0, mtown0, ship0, town0, law0, mcell0, gF, ltI, leI, Int32.reduceToInt, Int64.reduceToInt, ex, ey, ez, h1, e1]
      rw [if_neg (by omega), if_neg (by omega), if_neg (by omega), if_pos (by omega)]
      simp only [bS, bndE, gF, sA1, sL1, stA1, stL1, sF1, sA2, sL2, stA2, stL2, sF2, sA3, sL3, stA3, stL3, sF3, Nat.reduceEqDiff, Nat.reduceLT, reduceIte, rlC_11, wlC_11, rlC_12, wlC_12, rdC_13, wrC_13, rdC_14, wrC_14, rdC_15, wrC_15, rdC_16, wrC_16, rdC_17, wrC_17, rdC_18, wrC_18, rdC_19, wrC_19, rdC_20, wrC_20, rdC_21, wrC_21, rdC_22, wrC_22, rdC_23, wrC_23, rdC_24, wrC_24, rdC_25, wrC_25, rdC_26, wrC_26, rdC_27, wrC_27, rdC_28, wrC_28, rdC_29, wrC_29, rdC_30, wrC_30, rdC_31, wrC_31, rdC_32, wrC_32, rdC_33, wrC_33, rdC_34, wrC_34, rdC_35, wrC_35, rdC_36, wrC_36, rdC_38, wrC_38, rdC_39, wrC_39, rdC_40, wrC_40, rdC_41, wrC_41, rdC_42, wrC_42, rdC_43, wrC_43, rlC_44, wlC_44, rdC_45, wrC_45, rdC_46, wrC_46, rdC_47, wrC_47, rdC_48, wrC_48, rdC_49, wrC_49, rdC_50, wrC_50, rdC_51, wrC_51, rdC_52, wrC_52, rdC_53, wrC_53, rdC_54, wrC_54, rdC_55, wrC_55, rlC_56, wlC_56, rlC_57, wlC_57, rdC_58, wrC_58, rdC_59, wrC_59, rdC_60, wrC_60, rdC_61, wrC_61, rdC_62, wrC_62, rdC_63, wrC_63, rdC_64, wrC_64, rdC_65, wrC_65, rdC_66, wrC_66, rdC_67, wrC_67, rlC_68, wlC_68, rdC_69, wrC_69, rdC_70, wrC_70, h1, g0, nI_1, nI_pred]
    · unfold f_X11_box
      simp only [lies0, in0, wdL, side0, author0, minute0, year0, week0, cell0, mside0, mminute0, myear0, mweek0, mship0, mtown0, ship0, town0, law0, mcell0, gF, ltI, leI, Int32.reduceToInt, Int64.reduceToInt, ex, ey, ez, h2, e1]
      rw [if_neg (by simp only [eqI, e1, Int32.reduceToInt]; omega), if_neg (by omega), if_neg (by omega), if_neg (by omega)]
      simp only [bS, bndE, gF, sA1, sL1, stA1, stL1, sF1, sA2, sL2, stA2, stL2, sF2, sA3, sL3, stA3, stL3, sF3, Nat.reduceEqDiff, Nat.reduceLT, reduceIte, rdM_1, wrM_1, rdM_2, wrM_2, rdM_3, wrM_3, rdM_4, wrM_4, rdM_5, wrM_5, rdM_6, wrM_6, rdM_7, wrM_7, rdM_8, wrM_8, rdM_9, wrM_9, rdM_10, wrM_10, rdM_11, wrM_11, rdM_12, wrM_12, rdM_13, wrM_13, rdM_14, wrM_14, rdM_15, wrM_15, rdM_16, wrM_16, rdM_17, wrM_17, rdM_18, wrM_18, rdM_19, wrM_19, rdM_20, wrM_20, rdM_21, wrM_21, rdM_22, wrM_22, rdM_23, wrM_23, rdM_24, wrM_24, rdM_25, wrM_25, rdM_26, wrM_26, rdM_27, wrM_27, rdM_28, wrM_28, rdM_29, wrM_29, rdM_30, wrM_30, rlM_31, wlM_31, rlM_32, wlM_32, rlM_33, wlM_33, rdM_34, wrM_34, rdM_35, wrM_35, rdM_36, wrM_36, rdM_37, wrM_37, rdM_38, wrM_38, rdM_39, wrM_39, rdM_40, wrM_40, rdM_41, wrM_41, rdM_42, wrM_42, rdM_43, wrM_43, rdM_44, wrM_44, rdM_45, wrM_45, rdM_46, wrM_46, rlM_47, wlM_47, rdM_48, wrM_48, rdM_49, wrM_49, rdM_50, wrM_50, rdM_51, wrM_51, rdM_52, wrM_52, rdM_53, wrM_53, rdM_54, wrM_54, rdM_55, wrM_55, rdM_56, wrM_56, rdM_57, wrM_57, rdM_58, wrM_58, rdM_59, wrM_59, rlM_60, wlM_60, rdM_61, wrM_61, rdM_62, wrM_62, h2, g0, nI_1, nI_pred]
  · refine Op.no (-1) ?_ ?_ h
    · unfold f_X10_box f_X0_add
      simp only [lies0, in0, wdL, side0, author0, minute0, year0, week0, cell0, mside0, mminute0, myear0, mweek0, mship0, mtown0, ship0, town0, law0, mcell0, gF, ltI, leI, Int32.reduceToInt, Int64.reduceToInt, h1, e1]
      (repeat' split) <;> first | rfl | (exfalso; omega)
    · unfold f_X11_box
      simp only [lies0, in0, wdL, side0, author0, minute0, year0, week0, cell0, mside0, mminute0, myear0, mweek0, mship0, mtown0, ship0, town0, law0, mcell0, gF, ltI, leI, Int32.reduceToInt, Int64.reduceToInt, h2, e1]
      simp only [eqI (nI n), e1, Int32.reduceToInt]
      (repeat' split) <;> first | rfl | (exfalso; omega)
theorem q_escorts (x : Int32) {σ τ : St} (h : M_esc σ τ) : ∃ r, f_X10_escorts x σ = some r ∧ f_X11_escorts x τ = some r := by
  obtain ⟨⟨a1, a2⟩, h⟩ := h
  unfold f_X10_escorts f_X0_given f_X11_escorts
  rcases h with ⟨h1, h2, h3⟩ | ⟨h1, h2, n, hn, h3, h4⟩
  · refine ⟨-1000000000, ?_, ?_⟩
    · by_cases c : x = 0
      · rw [if_pos c, show gF σ 1007 = _ from h2]; rfl
      · rw [if_neg c, show gF σ 1008 = _ from h3]
        simp only [lies0]
        rw [if_pos (by show ¬ ((100 : Int) ≤ _ ∧ _ ≤ (99 : Int)); omega), if_pos (by show ¬ ((200 : Int) ≤ _ ∧ _ ≤ (199 : Int)); omega)]
        rfl
    · rw [if_pos (show gF τ 88 = 0 from h1)]
  · have e1 : (99 : Int32) + nI n = nI (99 + n) := nI_add 99 n
    have e2 : (199 : Int32) + nI n = nI (199 + n) := nI_add 199 n
    have t1 := nI_toInt (show 99 + n < 2 ^ 31 by omega)
    have t2 := nI_toInt (show 199 + n < 2 ^ 31 by omega)
    rw [show gF σ 1007 = _ from h2, show gF σ 1008 = _ from h3, show gF τ 89 = _ from h4, if_neg (show ¬ gF τ 88 = 0 by unfold gF; rw [h1]; decide), e1, e2]
    simp only [lies0, in0, wdL, t1, t2]
    have l1 : (100 : Int32).toInt = 100 := rfl
    have l2 : (200 : Int32).toInt = 200 := rfl
    have l3 : (100 : Int64).toInt = 100 := rfl
    have l4 : (200 : Int64).toInt = 200 := rfl
    rw [l1, l2, l3, l4]
    by_cases c : x = 0
    · rw [if_pos c, if_pos c]; exact ⟨_, rfl, rfl⟩
    · rw [if_neg c, if_neg c]
      by_cases c1 : (100 : Int) ≤ x.toInt ∧ x.toInt ≤ (99 + n : Nat)
      · obtain ⟨j, hj, ej⟩ : ∃ j, j < 6 ∧ x - 100 = nI j := ⟨(x.toInt - 100).toNat, by omega, nI_ofI (by rw [subI (by rw [l1]; omega) (by rw [l1]; omega), l1]; omega)⟩
        rw [if_neg (not_not_intro c1), if_neg (not_not_intro c1), ej, rdC_69 hj, rdM_61 hj, a1]
        exact ⟨_, rfl, rfl⟩
      · rw [if_pos c1, if_pos c1]
        by_cases c2 : (200 : Int) ≤ x.toInt ∧ x.toInt ≤ (199 + n : Nat)
        · obtain ⟨j, hj, ej⟩ : ∃ j, j < 6 ∧ x - 200 = nI j := ⟨(x.toInt - 200).toNat, by omega, nI_ofI (by rw [subI (by rw [l2]; omega) (by rw [l2]; omega), l2]; omega)⟩
          rw [if_neg (not_not_intro c2), if_neg (not_not_intro c2), ej, rdC_70 hj, rdM_62 hj, a2]
          exact ⟨_, rfl, rfl⟩
        · rw [if_pos c2, if_pos c2]; exact ⟨_, rfl, rfl⟩
/-! escort: what one box weighs -/
def cuV (R : Nat → Int32) (b t f : Nat) : Int32 := f_J9_max_7cf53 0 (nI t * R b - 10 * nI f)
def caV (P Q : Nat → Int32) (b t : Nat) : Int32 := nI t * P b - nI t * (nI t - 1) * Q b
def wV (P Q R : Nat → Int32) (b t f : Nat) : Int64 := (cuV R b t f).toInt64 * 1000000 - (caV P Q b t).toInt64
theorem mx32 (v : Int32) : (if 0 ≤ v then v else 0) = f_J9_max_7cf53 0 v := by
  unfold f_J9_max_7cf53
  by_cases c : (0 : Int32) < v
  · rw [if_pos c, if_pos (by rw [ltI] at c; rw [leI]; omega)]
  · rw [if_neg c]
    by_cases d : (0 : Int32) ≤ v
    · rw [if_pos d]
      rw [ltI] at c
      rw [leI] at d
      exact Int32.toInt_inj.mp (by omega)
    · rw [if_neg d]
section BX
variable {σ τ : St} {n : Nat} {P Q R : Nat → Int32}
theorem cutC (hn : n ≤ 6) (h1 : σ.1 1003 = nI n) (hR : σ.2.1 67 = R) {b t f : Nat} (hb : b < n) : f_X0_cutOf (nI b) (nI t) (nI f) σ = some (cuV R b t f) := by
  have eb := nI_toInt (show b < 2 ^ 31 by omega)
  have en := nI_toInt (show n - 1 < 2 ^ 31 by omega)
  unfold f_X0_cutOf
  rw [show gF σ 1003 = _ from h1, nIs n (by omega)]
  simp only [lies0, in0, wdL, side0, author0, minute0, year0, week0, cell0, mside0, mminute0, myear0, mweek0, mship0, mtown0, ship0, town0, law0, mcell0, gF, ltI, leI, Int32.reduceToInt, Int64.reduceToInt, eb, en]
  rw [if_neg (by omega), rdC_67 (by omega), bS, hR]
  rfl
theorem cauC (hn : n ≤ 6) (h1 : σ.1 1003 = nI n) (hP : σ.2.1 65 = P) (hQ : σ.2.1 66 = Q) {b t : Nat} (hb : b < n) : f_X0_caughtOf (nI b) (nI t) σ = some (caV P Q b t) := by
  have eb := nI_toInt (show b < 2 ^ 31 by omega)
  have en := nI_toInt (show n - 1 < 2 ^ 31 by omega)
  unfold f_X0_caughtOf
  rw [show gF σ 1003 = _ from h1, nIs n (by omega)]
  simp only [lies0, in0, wdL, side0, author0, minute0, year0, week0, cell0, mside0, mminute0, myear0, mweek0, mship0, mtown0, ship0, town0, law0, mcell0, gF, ltI, leI, Int32.reduceToInt, Int64.reduceToInt, eb, en]
  rw [if_neg (by omega), rdC_65 (by omega), bS, rdC_66 (by omega), bS, hP, hQ]
  rfl
theorem wC (hn : n ≤ 6) (h1 : σ.1 1003 = nI n) (hP : σ.2.1 65 = P) (hQ : σ.2.1 66 = Q) (hR : σ.2.1 67 = R) {b t f : Nat} (hb : b < n) : f_X0_weightOf (nI b) (nI t) (nI f) σ = some (wV P Q R b t f) := by
  unfold f_X0_weightOf
  rw [cutC hn h1 hR hb, bS, cauC hn h1 hP hQ hb]
  rfl
theorem cutM (hR : τ.2.1 59 = R) {b t f : Nat} (hb : b < 6) : f_X11_cut (nI b) (nI t) (nI f) τ = some (cuV R b t f) := by
  unfold f_X11_cut
  rw [rdM_59 hb, bS, hR, bndE, bndE, mx32]
  rfl
theorem cauM (hP : τ.2.1 57 = P) (hQ : τ.2.1 58 = Q) {b t : Nat} (hb : b < 6) : f_X11_caughtIn (nI b) (nI t) τ = some (caV P Q b t) := by
  unfold f_X11_caughtIn
  rw [rdM_57 hb, bS, rdM_58 hb, bS, hP, hQ]
  rfl
theorem wM (hP : τ.2.1 57 = P) (hQ : τ.2.1 58 = Q) (hR : τ.2.1 59 = R) {b t f : Nat} (hb : b < 6) : f_X11_worth (nI b) (nI t) (nI f) τ = some (wV P Q R b t f) := by
  unfold f_X11_worth
  rw [cutM hR hb, bS, cauM hP hQ hb, bS, Int64.mul_comm]
  rfl
theorem wV_lt (hP : Bn 9999 P) (hQ : Bn 999 Q) (hR : Bn 99 R) {b t f : Nat} (ht : t ≤ 12) (hf : f ≤ 6) : (wV P Q R b t f).toInt < 1000000000000 := by
  obtain ⟨p, hp, ep⟩ := hP b
  obtain ⟨q, hq, eq⟩ := hQ b
  obtain ⟨r, hr, er⟩ := hR b
  unfold wV cuV caV
  rw [ep, eq, er]
  have m1 : nI t * nI r = nI (t * r) := pk_mul _ _
  have m2 : (10 : Int32) * nI f = nI (10 * f) := pk_mul 10 f
  have m3 : nI t * nI p = nI (t * p) := pk_mul _ _
  have b1 : t * r ≤ 12 * 99 := Nat.mul_le_mul ht hr
  have b2 : t * p ≤ 12 * 9999 := Nat.mul_le_mul ht hp
  have m4 : nI t * (nI t - 1) * nI q = nI (t * (t - 1) * q) := by
    by_cases c : t = 0
    · subst c
      simp only [Nat.zero_mul]
      show (0 : Int32) * _ * _ = 0
      rw [Int32.zero_mul, Int32.zero_mul]
    · rw [nIs t (by omega), pk_mul, pk_mul]
  have b3 : t * (t - 1) * q ≤ 12 * 11 * 999 := Nat.mul_le_mul (Nat.mul_le_mul ht (by omega)) hq
  rw [m1, m2, m3, m4]
  have s1 : (nI (t * r) - nI (10 * f)).toInt = (t * r : Nat) - (10 * f : Nat) := pk_sub_toInt (by omega) (by omega)
  have s2 : (nI (t * p) - nI (t * (t - 1) * q)).toInt = (t * p : Nat) - (t * (t - 1) * q : Nat) := pk_sub_toInt (by omega) (by omega)
  have s3 : 0 ≤ (f_J9_max_7cf53 0 (nI (t * r) - nI (10 * f))).toInt ∧ (f_J9_max_7cf53 0 (nI (t * r) - nI (10 * f))).toInt ≤ 1188 := by
    unfold f_J9_max_7cf53
    split
    · next c =>
      rw [ltI, s1] at c
      have c : (0 : Int) < _ := c
      rw [s1]
      omega
    · exact ⟨by decide, by decide⟩
  generalize f_J9_max_7cf53 0 (nI (t * r) - nI (10 * f)) = u at *
  generalize nI (t * p) - nI (t * (t - 1) * q) = v at *
  have w1 : (u.toInt64 * 1000000).toInt = u.toInt * 1000000 := by
    rw [mulL (by rw [wdL]; show _ ≤ u.toInt * 1000000; omega) (by rw [wdL]; show u.toInt * 1000000 < _; omega), wdL]
    rfl
  rw [subL (by rw [w1, wdL]; omega) (by rw [w1, wdL]; omega), w1, wdL]
  omega
theorem wV_0 (b : Nat) : wV P Q R b 0 0 = 0 := by
  unfold wV cuV caV
  rw [show nI 0 = 0 from rfl, Int32.zero_mul, Int32.zero_mul, Int32.zero_mul, Int32.zero_mul]
  rfl
theorem plC (b t f : Nat) : f_X0_placeOf (nI b) (nI t) (nI f) = nI (91 * b + 7 * t + f) := by
  unfold f_X0_placeOf
  have e1 : nI b * 13 = nI (b * 13) := pk_mul b 13
  have e2 : nI (b * 13 + t) * 7 = nI ((b * 13 + t) * 7) := pk_mul _ 7
  rw [e1, nI_add, e2, nI_add]
  congr 1
  omega
theorem plM (b t f : Nat) : f_X11_place (nI b) (nI t) (nI f) = nI (91 * b + 7 * t + f) := by
  unfold f_X11_place
  have e1 : 91 * nI b = nI (91 * b) := pk_mul 91 b
  have e2 : 7 * nI t = nI (7 * t) := pk_mul 7 t
  rw [e1, e2, nI_add, nI_add]
theorem lfC {L : Nat → Int64} {b t f : Nat} (hb : b ≤ 6) (ht : t ≤ 12) (hf : f ≤ 6) : f_X0_leastFrom (nI b) (nI t) (nI f) (stL σ 68 L) = some (L (91 * b + 7 * t + f)) := by
  unfold f_X0_leastFrom
  rw [plC, bndE]
  have e := nI_toInt (show 91 * b + 7 * t + f < 2 ^ 31 by omega)
  have e6 : ((637 : Int32) - 1).toInt = 636 := by decide
  rw [if_neg (by rw [lies0, e, e6]; show ¬ ¬ ((0 : Int) ≤ _ ∧ _); omega), rlC_68 (by omega), bS, stL_at]
theorem rlMp {L : Nat → Int64} {b t f : Nat} (hb : b ≤ 6) (ht : t ≤ 12) (hf : f ≤ 6) : rl tM (stL τ 60 L) 60 (f_X11_place (nI b) (nI t) (nI f)) = some (L (91 * b + 7 * t + f)) := by
  rw [plM, rlM_60 (by omega), stL_at]
end BX
