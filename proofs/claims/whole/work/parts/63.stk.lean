/-! stocks -/
def nN (x : Int32) : Nat := x.toInt.toNat
theorem nN_nI {k : Nat} (h : k < 2147483648) : nN (nI k) = k := by unfold nN; rw [nI_toInt h]; rfl
theorem nN_of {x : Int32} {B : Nat} (hB : B < 2147483648) (h : ∃ k, k ≤ B ∧ x = nI k) : x = nI (nN x) ∧ nN x ≤ B := by
  obtain ⟨k, hk, rfl⟩ := h
  rw [nN_nI (by omega)]
  exact ⟨rfl, hk⟩
def Bn (B : Nat) (f : Nat → Int32) : Prop := ∀ i, ∃ k, k ≤ B ∧ f i = nI k
theorem Bn.upd {B : Nat} {f : Nat → Int32} (h : Bn B f) (i : Nat) {k : Nat} (hk : k ≤ B) : Bn B (upd f i (nI k)) := by
  intro j
  by_cases e : j = i
  · subst e; exact ⟨k, hk, upd_at _ _ _⟩
  · rw [upd_ne _ _ e]; exact h j
def M_stk (σ τ : St) : Prop := σ.2.1 50 = τ.2.1 41 ∧ σ.2.1 51 = τ.2.1 42 ∧ σ.2.1 52 = τ.2.1 43 ∧ Bn 99999999 (σ.2.1 50) ∧ Bn 1000 (σ.2.1 51) ∧ Bn 9999999 (σ.2.1 52)
def M_age (σ τ : St) : Prop := σ.2.1 53 = τ.2.1 44 ∧ σ.2.1 54 = τ.2.1 45 ∧ σ.2.1 55 = τ.2.1 46 ∧ Bn 999999 (σ.2.1 53) ∧ Bn 199 (σ.2.1 54) ∧ Bn 999 (σ.2.1 55)
theorem o_office (s x y : Int32) {σ τ : St} (h : M_stk σ τ) : Op (f_X10_office s x y σ) (f_X11_office s x y τ) M_stk ([], [50, 51], []) ([], [41, 42], []) σ τ := by
  obtain ⟨a1, a2, a3, a4, a5, a6⟩ := id h
  by_cases hg : (0 ≤ s.toInt ∧ s.toInt ≤ 1) ∧ (0 ≤ x.toInt ∧ x.toInt ≤ 99999999) ∧ 0 ≤ y.toInt ∧ y.toInt ≤ 1000
  · obtain ⟨g1, g2, g3⟩ := hg
    obtain ⟨i, hi, rfl⟩ := nI_btw (n := 1) g1.1 g1.2
    obtain ⟨j, hj, rfl⟩ := nI_btw (n := 99999999) g2.1 g2.2
    obtain ⟨k, hk, rfl⟩ := nI_btw (n := 1000) g3.1 g3.2
    have hi2 : i < 2 := by omega
    have ei := nI_toInt (show i < 2 ^ 31 by omega)
    have ej := nI_toInt (show j < 2 ^ 31 by omega)
    have ek := nI_toInt (show k < 2 ^ 31 by omega)
    refine ⟨1, sA (sA σ 50 i (nI j)) 51 i (nI k), sA (sA τ 41 i (nI j)) 42 i (nI k), ?_, ?_, ⟨congrArg (upd · i (nI j)) a1, congrArg (upd · i (nI k)) a2, a3, a4.upd i hj, a5.upd i hk, a6⟩, (Fr.rf.wA (by decide)).wA (by decide), (Fr.rf.wA (by decide)).wA (by decide)⟩
    · unfold f_X10_office
      simp only [lies0, in0, wdL, side0, author0, minute0, year0, week0, cell0, mside0, mminute0, myear0, mweek0, mship0, mtown0, ship0, town0, law0, mcell0, gF, ltI, leI, Int32.reduceToInt, Int64.reduceToInt, ei, ej, ek]
      rw [if_neg (by omega), if_neg (by omega), if_neg (by omega)]
      simp only [bS, bndE, gF, sA1, sL1, stA1, stL1, sF1, sA2, sL2, stA2, stL2, sF2, sA3, sL3, stA3, stL3, sF3, Nat.reduceEqDiff, Nat.reduceLT, reduceIte, rlC_11, wlC_11, rlC_12, wlC_12, rdC_13, wrC_13, rdC_14, wrC_14, rdC_15, wrC_15, rdC_16, wrC_16, rdC_17, wrC_17, rdC_18, wrC_18, rdC_19, wrC_19, rdC_20, wrC_20, rdC_21, wrC_21, rdC_22, wrC_22, rdC_23, wrC_23, rdC_24, wrC_24, rdC_25, wrC_25, rdC_26, wrC_26, rdC_27, wrC_27, rdC_28, wrC_28, rdC_29, wrC_29, rdC_30, wrC_30, rdC_31, wrC_31, rdC_32, wrC_32, rdC_33, wrC_33, rdC_34, wrC_34, rdC_35, wrC_35, rdC_36, wrC_36, rdC_38, wrC_38, rdC_39, wrC_39, rdC_40, wrC_40, rdC_41, wrC_41, rdC_42, wrC_42, rdC_43, wrC_43, rlC_44, wlC_44, rdC_45, wrC_45, rdC_46, wrC_46, rdC_47, wrC_47, rdC_48, wrC_48, rdC_49, wrC_49, rdC_50, wrC_50, rdC_51, wrC_51, rdC_52, wrC_52, rdC_53, wrC_53, rdC_54, wrC_54, rdC_55, wrC_55, rlC_56, wlC_56, rlC_57, wlC_57, rdC_58, wrC_58, rdC_59, wrC_59, rdC_60, wrC_60, rdC_61, wrC_61, rdC_62, wrC_62, rdC_63, wrC_63, rdC_64, wrC_64, rdC_65, wrC_65, rdC_66, wrC_66, rdC_67, wrC_67, rlC_68, wlC_68, rdC_69, wrC_69, rdC_70, wrC_70, hi2]
    · unfold f_X11_office
      simp only [lies0, in0, wdL, side0, author0, minute0, year0, week0, cell0, mside0, mminute0, myear0, mweek0, mship0, mtown0, ship0, town0, law0, mcell0, gF, ltI, leI, Int32.reduceToInt, Int64.reduceToInt, ei, ej, ek]
      rw [if_neg (by omega), if_neg (by omega), if_neg (by omega)]
      simp only [bS, bndE, gF, sA1, sL1, stA1, stL1, sF1, sA2, sL2, stA2, stL2, sF2, sA3, sL3, stA3, stL3, sF3, Nat.reduceEqDiff, Nat.reduceLT, reduceIte, rdM_1, wrM_1, rdM_2, wrM_2, rdM_3, wrM_3, rdM_4, wrM_4, rdM_5, wrM_5, rdM_6, wrM_6, rdM_7, wrM_7, rdM_8, wrM_8, rdM_9, wrM_9, rdM_10, wrM_10, rdM_11, wrM_11, rdM_12, wrM_12, rdM_13, wrM_13, rdM_14, wrM_14, rdM_15, wrM_15, rdM_16, wrM_16, rdM_17, wrM_17, rdM_18, wrM_18, rdM_19, wrM_19, rdM_20, wrM_20, rdM_21, wrM_21, rdM_22, wrM_22, rdM_23, wrM_23, rdM_24, wrM_24, rdM_25, wrM_25, rdM_26, wrM_26, rdM_27, wrM_27, rdM_28, wrM_28, rdM_29, wrM_29, rdM_30, wrM_30, rlM_31, wlM_31, rlM_32, wlM_32, rlM_33, wlM_33, rdM_34, wrM_34, rdM_35, wrM_35, rdM_36, wrM_36, rdM_37, wrM_37, rdM_38, wrM_38, rdM_39, wrM_39, rdM_40, wrM_40, rdM_41, wrM_41, rdM_42, wrM_42, rdM_43, wrM_43, rdM_44, wrM_44, rdM_45, wrM_45, rdM_46, wrM_46, rlM_47, wlM_47, rdM_48, wrM_48, rdM_49, wrM_49, rdM_50, wrM_50, rdM_51, wrM_51, rdM_52, wrM_52, rdM_53, wrM_53, rdM_54, wrM_54, rdM_55, wrM_55, rdM_56, wrM_56, rdM_57, wrM_57, rdM_58, wrM_58, rdM_59, wrM_59, rlM_60, wlM_60, rdM_61, wrM_61, rdM_62, wrM_62, hi2]
  · refine Op.no 0 ?_ ?_ h
    · unfold f_X10_office
      simp only [lies0, in0, wdL, side0, author0, minute0, year0, week0, cell0, mside0, mminute0, myear0, mweek0, mship0, mtown0, ship0, town0, law0, mcell0, gF, ltI, leI, Int32.reduceToInt, Int64.reduceToInt]
      (repeat' split) <;> first | rfl | (exfalso; omega)
    · unfold f_X11_office
      simp only [lies0, in0, wdL, side0, author0, minute0, year0, week0, cell0, mside0, mminute0, myear0, mweek0, mship0, mtown0, ship0, town0, law0, mcell0, gF, ltI, leI, Int32.reduceToInt, Int64.reduceToInt]
      (repeat' split) <;> first | rfl | (exfalso; omega)
theorem o_year (s x y : Int32) {σ τ : St} (h : M_stk σ τ) : Op (f_X10_year s x y σ) (f_X11_year s x y τ) M_stk ([], [52], []) ([], [43], []) σ τ := by
  obtain ⟨a1, a2, a3, a4, a5, a6⟩ := id h
  by_cases hg : (0 ≤ s.toInt ∧ s.toInt ≤ 2) ∧ (0 ≤ x.toInt ∧ x.toInt ≤ 39) ∧ 0 ≤ y.toInt ∧ y.toInt ≤ 9999999
  · obtain ⟨g1, g2, g3⟩ := hg
    obtain ⟨i, hi, rfl⟩ := nI_btw (n := 2) g1.1 g1.2
    obtain ⟨j, hj, rfl⟩ := nI_btw (n := 39) g2.1 g2.2
    obtain ⟨k, hk, rfl⟩ := nI_btw (n := 9999999) g3.1 g3.2
    have hb : 40 * i + j < 120 := by omega
    have ei := nI_toInt (show i < 2 ^ 31 by omega)
    have ej := nI_toInt (show j < 2 ^ 31 by omega)
    have ek := nI_toInt (show k < 2 ^ 31 by omega)
    have i1 : nI i * 40 + nI j = nI (40 * i + j) := ixd 40 i j
    have i2 : 40 * nI i + nI j = nI (40 * i + j) := ixc 40 i j
    refine ⟨σ.2.1 52 (40 * i + j), sA σ 52 (40 * i + j) (nI k), sA τ 43 (40 * i + j) (nI k), ?_, ?_, ⟨a1, a2, congrArg (upd · (40 * i + j) (nI k)) a3, a4, a5, a6.upd _ hk⟩, Fr.rf.wA (by decide), Fr.rf.wA (by decide)⟩
    · unfold f_X10_year f_X8_changeYear
      simp only [lies0, in0, wdL, side0, author0, minute0, year0, week0, cell0, mside0, mminute0, myear0, mweek0, mship0, mtown0, ship0, town0, law0, mcell0, gF, ltI, leI, Int32.reduceToInt, Int64.reduceToInt, ei, ej, ek]
      rw [if_neg (by omega), if_neg (by omega), if_neg (by omega), if_neg (by omega), if_neg (by omega)]
      simp only [bS, bndE, gF, sA1, sL1, stA1, stL1, sF1, sA2, sL2, stA2, stL2, sF2, sA3, sL3, stA3, stL3, sF3, Nat.reduceEqDiff, Nat.reduceLT, reduceIte, rlC_11, wlC_11, rlC_12, wlC_12, rdC_13, wrC_13, rdC_14, wrC_14, rdC_15, wrC_15, rdC_16, wrC_16, rdC_17, wrC_17, rdC_18, wrC_18, rdC_19, wrC_19, rdC_20, wrC_20, rdC_21, wrC_21, rdC_22, wrC_22, rdC_23, wrC_23, rdC_24, wrC_24, rdC_25, wrC_25, rdC_26, wrC_26, rdC_27, wrC_27, rdC_28, wrC_28, rdC_29, wrC_29, rdC_30, wrC_30, rdC_31, wrC_31, rdC_32, wrC_32, rdC_33, wrC_33, rdC_34, wrC_34, rdC_35, wrC_35, rdC_36, wrC_36, rdC_38, wrC_38, rdC_39, wrC_39, rdC_40, wrC_40, rdC_41, wrC_41, rdC_42, wrC_42, rdC_43, wrC_43, rlC_44, wlC_44, rdC_45, wrC_45, rdC_46, wrC_46, rdC_47, wrC_47, rdC_48, wrC_48, rdC_49, wrC_49, rdC_50, wrC_50, rdC_51, wrC_51, rdC_52, wrC_52, rdC_53, wrC_53, rdC_54, wrC_54, rdC_55, wrC_55, rlC_56, wlC_56, rlC_57, wlC_57, rdC_58, wrC_58, rdC_59, wrC_59, rdC_60, wrC_60, rdC_61, wrC_61, rdC_62, wrC_62, rdC_63, wrC_63, rdC_64, wrC_64, rdC_65, wrC_65, rdC_66, wrC_66, rdC_67, wrC_67, rlC_68, wlC_68, rdC_69, wrC_69, rdC_70, wrC_70, i1, hb]
    · unfold f_X11_year
      simp only [lies0, in0, wdL, side0, author0, minute0, year0, week0, cell0, mside0, mminute0, myear0, mweek0, mship0, mtown0, ship0, town0, law0, mcell0, gF, ltI, leI, Int32.reduceToInt, Int64.reduceToInt, ei, ej, ek]
      rw [if_neg (by omega), if_neg (by omega), if_neg (by omega)]
      simp only [bS, bndE, gF, sA1, sL1, stA1, stL1, sF1, sA2, sL2, stA2, stL2, sF2, sA3, sL3, stA3, stL3, sF3, Nat.reduceEqDiff, Nat.reduceLT, reduceIte, rdM_1, wrM_1, rdM_2, wrM_2, rdM_3, wrM_3, rdM_4, wrM_4, rdM_5, wrM_5, rdM_6, wrM_6, rdM_7, wrM_7, rdM_8, wrM_8, rdM_9, wrM_9, rdM_10, wrM_10, rdM_11, wrM_11, rdM_12, wrM_12, rdM_13, wrM_13, rdM_14, wrM_14, rdM_15, wrM_15, rdM_16, wrM_16, rdM_17, wrM_17, rdM_18, wrM_18, rdM_19, wrM_19, rdM_20, wrM_20, rdM_21, wrM_21, rdM_22, wrM_22, rdM_23, wrM_23, rdM_24, wrM_24, rdM_25, wrM_25, rdM_26, wrM_26, rdM_27, wrM_27, rdM_28, wrM_28, rdM_29, wrM_29, rdM_30, wrM_30, rlM_31, wlM_31, rlM_32, wlM_32, rlM_33, wlM_33, rdM_34, wrM_34, rdM_35, wrM_35, rdM_36, wrM_36, rdM_37, wrM_37, rdM_38, wrM_38, rdM_39, wrM_39, rdM_40, wrM_40, rdM_41, wrM_41, rdM_42, wrM_42, rdM_43, wrM_43, rdM_44, wrM_44, rdM_45, wrM_45, rdM_46, wrM_46, rlM_47, wlM_47, rdM_48, wrM_48, rdM_49, wrM_49, rdM_50, wrM_50, rdM_51, wrM_51, rdM_52, wrM_52, rdM_53, wrM_53, rdM_54, wrM_54, rdM_55, wrM_55, rdM_56, wrM_56, rdM_57, wrM_57, rdM_58, wrM_58, rdM_59, wrM_59, rlM_60, wlM_60, rdM_61, wrM_61, rdM_62, wrM_62, i2, hb, a3]
  · refine Op.no (-1) ?_ ?_ h
    · unfold f_X10_year
      simp only [lies0, in0, wdL, side0, author0, minute0, year0, week0, cell0, mside0, mminute0, myear0, mweek0, mship0, mtown0, ship0, town0, law0, mcell0, gF, ltI, leI, Int32.reduceToInt, Int64.reduceToInt]
      (repeat' split) <;> first | rfl | (exfalso; omega)
    · unfold f_X11_year
      simp only [lies0, in0, wdL, side0, author0, minute0, year0, week0, cell0, mside0, mminute0, myear0, mweek0, mship0, mtown0, ship0, town0, law0, mcell0, gF, ltI, leI, Int32.reduceToInt, Int64.reduceToInt]
      (repeat' split) <;> first | rfl | (exfalso; omega)
theorem o_age (s x y z : Int32) {σ τ : St} (h : M_age σ τ) : Op (f_X10_age s x y z σ) (f_X11_age s x y z τ) M_age ([], [53, 54, 55], []) ([], [44, 45, 46], []) σ τ := by
  obtain ⟨a1, a2, a3, a4, a5, a6⟩ := id h
  by_cases hg : (0 ≤ s.toInt ∧ s.toInt ≤ 7) ∧ (0 ≤ x.toInt ∧ x.toInt ≤ 999999) ∧ (0 ≤ y.toInt ∧ y.toInt ≤ 199) ∧ 0 ≤ z.toInt ∧ z.toInt ≤ 999
  · obtain ⟨g1, g2, g3, g4⟩ := hg
    obtain ⟨i, hi, rfl⟩ := nI_btw (n := 7) g1.1 g1.2
    obtain ⟨j, hj, rfl⟩ := nI_btw (n := 999999) g2.1 g2.2
    obtain ⟨k, hk, rfl⟩ := nI_btw (n := 199) g3.1 g3.2
    obtain ⟨l, hl, rfl⟩ := nI_btw (n := 999) g4.1 g4.2
    have hb : i < 8 := by omega
    have ei := nI_toInt (show i < 2 ^ 31 by omega)
    have ej := nI_toInt (show j < 2 ^ 31 by omega)
    have ek := nI_toInt (show k < 2 ^ 31 by omega)
    have el := nI_toInt (show l < 2 ^ 31 by omega)
    refine ⟨1, sA (sA (sA σ 53 i (nI j)) 54 i (nI k)) 55 i (nI l), sA (sA (sA τ 44 i (nI j)) 45 i (nI k)) 46 i (nI l), ?_, ?_, ⟨congrArg (upd · i (nI j)) a1, congrArg (upd · i (nI k)) a2, congrArg (upd · i (nI l)) a3, a4.upd i hj, a5.upd i hk, a6.upd i hl⟩, ((Fr.rf.wA (by decide)).wA (by decide)).wA (by decide), ((Fr.rf.wA (by decide)).wA (by decide)).wA (by decide)⟩
    · unfold f_X10_age
      simp only [lies0, in0, wdL, side0, author0, minute0, year0, week0, cell0, mside0, mminute0, myear0, mweek0, mship0, mtown0, ship0, town0, law0, mcell0, gF, ltI, leI, Int32.reduceToInt, Int64.reduceToInt, ei, ej, ek, el]
      rw [if_neg (by omega), if_neg (by omega), if_neg (by omega), if_neg (by omega)]
      simp only [bS, bndE, gF, sA1, sL1, stA1, stL1, sF1, sA2, sL2, stA2, stL2, sF2, sA3, sL3, stA3, stL3, sF3, Nat.reduceEqDiff, Nat.reduceLT, reduceIte, rlC_11, wlC_11, rlC_12, wlC_12, rdC_13, wrC_13, rdC_14, wrC_14, rdC_15, wrC_15, rdC_16, wrC_16, rdC_17, wrC_17, rdC_18, wrC_18, rdC_19, wrC_19, rdC_20, wrC_20, rdC_21, wrC_21, rdC_22, wrC_22, rdC_23, wrC_23, rdC_24, wrC_24, rdC_25, wrC_25, rdC_26, wrC_26, rdC_27, wrC_27, rdC_28, wrC_28, rdC_29, wrC_29, rdC_30, wrC_30, rdC_31, wrC_31, rdC_32, wrC_32, rdC_33, wrC_33, rdC_34, wrC_34, rdC_35, wrC_35, rdC_36, wrC_36, rdC_38, wrC_38, rdC_39, wrC_39, rdC_40, wrC_40, rdC_41, wrC_41, rdC_42, wrC_42, rdC_43, wrC_43, rlC_44, wlC_44, rdC_45, wrC_45, rdC_46, wrC_46, rdC_47, wrC_47, rdC_48, wrC_48, rdC_49, wrC_49, rdC_50, wrC_50, rdC_51, wrC_51, rdC_52, wrC_52, rdC_53, wrC_53, rdC_54, wrC_54, rdC_55, wrC_55, rlC_56, wlC_56, rlC_57, wlC_57, rdC_58, wrC_58, rdC_59, wrC_59, rdC_60, wrC_60, rdC_61, wrC_61, rdC_62, wrC_62, rdC_63, wrC_63, rdC_64, wrC_64, rdC_65, wrC_65, rdC_66, wrC_66, rdC_67, wrC_67, rlC_68, wlC_68, rdC_69, wrC_69, rdC_70, wrC_70, hb]
    · unfold f_X11_age
      simp only [lies0, in0, wdL, side0, author0, minute0, year0, week0, cell0, mside0, mminute0, myear0, mweek0, mship0, mtown0, ship0, town0, law0, mcell0, gF, ltI, leI, Int32.reduceToInt, Int64.reduceToInt, ei, ej, ek, el]
      rw [if_neg (by omega), if_neg (by omega), if_neg (by omega), if_neg (by omega)]
      simp only [bS, bndE, gF, sA1, sL1, stA1, stL1, sF1, sA2, sL2, stA2, stL2, sF2, sA3, sL3, stA3, stL3, sF3, Nat.reduceEqDiff, Nat.reduceLT, reduceIte, rdM_1, wrM_1, rdM_2, wrM_2, rdM_3, wrM_3, rdM_4, wrM_4, rdM_5, wrM_5, rdM_6, wrM_6, rdM_7, wrM_7, rdM_8, wrM_8, rdM_9, wrM_9, rdM_10, wrM_10, rdM_11, wrM_11, rdM_12, wrM_12, rdM_13, wrM_13, rdM_14, wrM_14, rdM_15, wrM_15, rdM_16, wrM_16, rdM_17, wrM_17, rdM_18, wrM_18, rdM_19, wrM_19, rdM_20, wrM_20, rdM_21, wrM_21, rdM_22, wrM_22, rdM_23, wrM_23, rdM_24, wrM_24, rdM_25, wrM_25, rdM_26, wrM_26, rdM_27, wrM_27, rdM_28, wrM_28, rdM_29, wrM_29, rdM_30, wrM_30, rlM_31, wlM_31, rlM_32, wlM_32, rlM_33, wlM_33, rdM_34, wrM_34, rdM_35, wrM_35, rdM_36, wrM_36, rdM_37, wrM_37, rdM_38, wrM_38, rdM_39, wrM_39, rdM_40, wrM_40, rdM_41, wrM_41, rdM_42, wrM_42, rdM_43, wrM_43, rdM_44, wrM_44, rdM_45, wrM_45, rdM_46, wrM_46, rlM_47, wlM_47, rdM_48, wrM_48, rdM_49, wrM_49, rdM_50, wrM_50, rdM_51, wrM_51, rdM_52, wrM_52, rdM_53, wrM_53, rdM_54, wrM_54, rdM_55, wrM_55, rdM_56, wrM_56, rdM_57, wrM_57, rdM_58, wrM_58, rdM_59, wrM_59, rlM_60, wlM_60, rdM_61, wrM_61, rdM_62, wrM_62, hb]
  · refine Op.no 0 ?_ ?_ h
    · unfold f_X10_age
      simp only [lies0, in0, wdL, side0, author0, minute0, year0, week0, cell0, mside0, mminute0, myear0, mweek0, mship0, mtown0, ship0, town0, law0, mcell0, gF, ltI, leI, Int32.reduceToInt, Int64.reduceToInt]
      (repeat' split) <;> first | rfl | (exfalso; omega)
    · unfold f_X11_age
      simp only [lies0, in0, wdL, side0, author0, minute0, year0, week0, cell0, mside0, mminute0, myear0, mweek0, mship0, mtown0, ship0, town0, law0, mcell0, gF, ltI, leI, Int32.reduceToInt, Int64.reduceToInt]
      (repeat' split) <;> first | rfl | (exfalso; omega)
/-- a STOCK -/
def stN (b : Nat) (ca re : Nat → Nat) (m : Nat) : Nat → Nat
  | 0 => b
  | y + 1 => (stN b ca re m y - ca y) * (1000 - m) / 1000 + re y
theorem th_le (s m : Nat) : s * (1000 - m) / 1000 ≤ s := Nat.div_le_of_le_mul (by rw [Nat.mul_comm]; exact Nat.mul_le_mul_right s (by omega))
theorem stN_le {b : Nat} {ca re : Nat → Nat} {m : Nat} (hb : b ≤ 99999999) (hr : ∀ y, re y ≤ 9999999) (y : Nat) : stN b ca re m y ≤ 99999999 + 9999999 * y := by
  induction y with
  | zero => exact hb
  | succ y ih =>
    have h1 := th_le (stN b ca re m y - ca y) m
    have h2 := hr y
    show (stN b ca re m y - ca y) * (1000 - m) / 1000 + re y ≤ _
    omega
theorem stN_mono {b : Nat} {ca re : Nat → Nat} {m m' : Nat} (h : m ≤ m') (y : Nat) : stN b ca re m' y ≤ stN b ca re m y := by
  induction y with
  | zero => exact Nat.le_refl _
  | succ y ih =>
    show (stN b ca re m' y - ca y) * (1000 - m') / 1000 + re y ≤ (stN b ca re m y - ca y) * (1000 - m) / 1000 + re y
    exact Nat.add_le_add_right (Nat.div_le_div_right (Nat.mul_le_mul (by omega) (by omega))) _
def sk (B T : Nat → Int32) (j m Y : Nat) : Nat := stN (nN (B j)) (fun y => nN (T (80 + y))) (fun y => nN (T (40 * j + y))) m Y
theorem sk_le {B T : Nat → Int32} (hB : Bn 99999999 B) (hT : Bn 9999999 T) (j m Y : Nat) : sk B T j m Y ≤ 99999999 + 9999999 * Y := stN_le (nN_of (by decide) (hB j)).2 (fun y => (nN_of (by decide) (hT _)).2) Y
theorem mx0 {s c : Nat} (hs : s < 4611686018427387904) (hc : c < 4611686018427387904) : f_J9_max_f86c9 0 (lN s - lN c) = lN (s - c) := by
  unfold f_J9_max_f86c9
  have h1 := pk_lT (n := s) (by omega)
  have h2 := pk_lT (n := c) (by omega)
  have h3 : (lN s - lN c).toInt = (s : Int) - c := by rw [subL (by omega) (by omega), h1, h2]
  by_cases h : s < c
  · rw [if_pos (by rw [ltL, h3]; show _ < (0 : Int); omega), show s - c = 0 by omega]; rfl
  · rw [if_neg (by rw [ltL, h3]; show ¬ _ < (0 : Int); omega), lN_sub (by omega)]
theorem mx1 {s c : Nat} (hs : s < 4611686018427387904) (hc : c < 4611686018427387904) : (if 0 ≤ lN s - lN c then lN s - lN c else 0) = lN (s - c) := by
  have h1 := pk_lT (n := s) (by omega)
  have h2 := pk_lT (n := c) (by omega)
  have h3 : (lN s - lN c).toInt = (s : Int) - c := by rw [subL (by omega) (by omega), h1, h2]
  by_cases h : c ≤ s
  · rw [if_pos (by rw [leL, h3]; show (0 : Int) ≤ _; omega), lN_sub h]
  · rw [if_neg (by rw [leL, h3]; show ¬ (0 : Int) ≤ _; omega), show s - c = 0 by omega]; rfl
theorem toldC {r y : Nat} (hr : r < 3) (hy : y < 40) (σ : St) : f_X8_toldOf (nI r) (nI y) σ = some (σ.2.1 52 (40 * r + y)) := by
  have e1 := nI_toInt (show r < 2 ^ 31 by omega)
  have e2 := nI_toInt (show y < 2 ^ 31 by omega)
  have i1 : nI r * 40 + nI y = nI (40 * r + y) := ixd 40 r y
  have hb : 40 * r + y < 120 := by omega
  unfold f_X8_toldOf
  simp only [lies0, in0, wdL, side0, author0, minute0, year0, week0, cell0, mside0, mminute0, myear0, mweek0, mship0, mtown0, ship0, town0, law0, mcell0, gF, ltI, leI, Int32.reduceToInt, Int64.reduceToInt, e1, e2]
  rw [if_neg (by omega), if_neg (by omega)]
  simp only [bS, bndE, gF, sA1, sL1, stA1, stL1, sF1, sA2, sL2, stA2, stL2, sF2, sA3, sL3, stA3, stL3, sF3, Nat.reduceEqDiff, Nat.reduceLT, reduceIte, rlC_11, wlC_11, rlC_12, wlC_12, rdC_13, wrC_13, rdC_14, wrC_14, rdC_15, wrC_15, rdC_16, wrC_16, rdC_17, wrC_17, rdC_18, wrC_18, rdC_19, wrC_19, rdC_20, wrC_20, rdC_21, wrC_21, rdC_22, wrC_22, rdC_23, wrC_23, rdC_24, wrC_24, rdC_25, wrC_25, rdC_26, wrC_26, rdC_27, wrC_27, rdC_28, wrC_28, rdC_29, wrC_29, rdC_30, wrC_30, rdC_31, wrC_31, rdC_32, wrC_32, rdC_33, wrC_33, rdC_34, wrC_34, rdC_35, wrC_35, rdC_36, wrC_36, rdC_38, wrC_38, rdC_39, wrC_39, rdC_40, wrC_40, rdC_41, wrC_41, rdC_42, wrC_42, rdC_43, wrC_43, rlC_44, wlC_44, rdC_45, wrC_45, rdC_46, wrC_46, rdC_47, wrC_47, rdC_48, wrC_48, rdC_49, wrC_49, rdC_50, wrC_50, rdC_51, wrC_51, rdC_52, wrC_52, rdC_53, wrC_53, rdC_54, wrC_54, rdC_55, wrC_55, rlC_56, wlC_56, rlC_57, wlC_57, rdC_58, wrC_58, rdC_59, wrC_59, rdC_60, wrC_60, rdC_61, wrC_61, rdC_62, wrC_62, rdC_63, wrC_63, rdC_64, wrC_64, rdC_65, wrC_65, rdC_66, wrC_66, rdC_67, wrC_67, rlC_68, wlC_68, rdC_69, wrC_69, rdC_70, wrC_70, i1, hb]
theorem th_mul {s m : Nat} (hs : s < 1000000000000) (hm : m ≤ 1000) : lN s * ((1000 - nI m : Int32).toInt64) / 1000 = lN (s * (1000 - m) / 1000) := by
  have e : (1000 : Int32) - nI m = nI (1000 - m) := pk_sub hm
  have h2 : s * (1000 - m) ≤ 1000000000000 * 1000 := Nat.mul_le_mul (by omega) (by omega)
  rw [e, nI_l (by omega), lN_mul]
  exact pk_lDiv (b := 1000) (by omega) (by decide) (by decide)
theorem nextC {σ : St} (hT : Bn 9999999 (σ.2.1 52)) {j y m s : Nat} (hj : j < 2) (hy : y < 40) (hm : m ≤ 1000) (hs : s < 1000000000) : f_X8_nextStock (nI j) (nI y) (nI m) (lN s) σ = some (lN ((s - nN (σ.2.1 52 (80 + y))) * (1000 - m) / 1000 + nN (σ.2.1 52 (40 * j + y)))) := by
  have t1 : f_X8_toldOf 2 (nI y) σ = some (σ.2.1 52 (80 + y)) := toldC (r := 2) (by decide) hy σ
  have t2 := toldC (r := j) (by omega) hy σ
  obtain ⟨b1, b2⟩ := nN_of (by decide) (hT (80 + y))
  obtain ⟨c1, c2⟩ := nN_of (by decide) (hT (40 * j + y))
  unfold f_X8_nextStock
  rw [t1, bS, t2]
  simp only [bS, bndE]
  rw [b1, c1, nI_l (by omega), nI_l (by omega), nN_nI (by omega), nN_nI (by omega), mx0 (by omega) (by omega), th_mul (by omega) hm, lN_add]
theorem swC_loop {σ : St} (hB : Bn 99999999 (σ.2.1 50)) (hT : Bn 9999999 (σ.2.1 52)) {j m Y : Nat} (hj : j < 2) (hY : Y ≤ 40) (hm : m ≤ 1000) : ∀ (k y n : Nat), y + k = Y → k < n → f_X8_stockWith_25 (nI j) (nI Y) (nI m) σ n (lN (sk (σ.2.1 50) (σ.2.1 52) j m y)) (nI y) = some (lN (sk (σ.2.1 50) (σ.2.1 52) j m Y)) := by
  intro k
  induction k with
  | zero =>
    intro y n hy hn
    obtain ⟨n, rfl⟩ : ∃ q, n = q + 1 := ⟨n - 1, by omega⟩
    have : y = Y := by omega
    subst this
    unfold f_X8_stockWith_25
    rw [if_pos (nI_le (Nat.le_refl _) (by omega))]
  | succ k ih =>
    intro y n hy hn
    obtain ⟨n, rfl⟩ : ∃ q, n = q + 1 := ⟨n - 1, by omega⟩
    have hs := sk_le hB hT j m y
    unfold f_X8_stockWith_25
    rw [if_neg (nI_ge (by omega) (by omega)), nextC hT hj (by omega) hm (by omega), bS, bndE, nI_1]
    exact ih (y + 1) n (by omega) (by omega)
theorem swC {σ : St} (hB : Bn 99999999 (σ.2.1 50)) (hT : Bn 9999999 (σ.2.1 52)) {j m Y : Nat} (hj : j < 2) (hY : Y ≤ 40) (hm : m ≤ 1000) : f_X8_stockWith (nI j) (nI Y) (nI m) σ = some (lN (sk (σ.2.1 50) (σ.2.1 52) j m Y)) := by
  have e1 := nI_toInt (show j < 2 ^ 31 by omega)
  obtain ⟨b1, b2⟩ := nN_of (by decide) (hB j)
  unfold f_X8_stockWith
  simp only [lies0, in0, wdL, side0, author0, minute0, year0, week0, cell0, mside0, mminute0, myear0, mweek0, mship0, mtown0, ship0, town0, law0, mcell0, gF, ltI, leI, Int32.reduceToInt, Int64.reduceToInt, e1]
  rw [if_neg (by omega), rdC_50 hj, bS, b1, nI_l (by omega)]
  exact swC_loop hB hT hj hY hm Y 0 FU (by omega) (by unfold FU; omega)
theorem swM_loop {τ : St} (hB : Bn 99999999 (τ.2.1 41)) (hT : Bn 9999999 (τ.2.1 43)) {j m Y : Nat} (hj : j < 2) (hY : Y ≤ 40) (hm : m ≤ 1000) : ∀ (k y n : Nat), y + k = Y → k < n → f_X11_stockOf_12 (nI j) (nI Y) (nI m) τ n (lN (sk (τ.2.1 41) (τ.2.1 43) j m y)) (nI y) = some (lN (sk (τ.2.1 41) (τ.2.1 43) j m Y)) := by
  intro k
  induction k with
  | zero =>
    intro y n hy hn
    obtain ⟨n, rfl⟩ : ∃ q, n = q + 1 := ⟨n - 1, by omega⟩
    have : y = Y := by omega
    subst this
    unfold f_X11_stockOf_12
    rw [if_pos (nI_le (Nat.le_refl _) (by omega))]
  | succ k ih =>
    intro y n hy hn
    obtain ⟨n, rfl⟩ : ∃ q, n = q + 1 := ⟨n - 1, by omega⟩
    have hs := sk_le hB hT j m y
    have i1 : 80 + nI y = nI (80 + y) := nI_add 80 y
    have i2 : 40 * nI j + nI y = nI (40 * j + y) := ixc 40 j y
    obtain ⟨b1, b2⟩ := nN_of (by decide) (hT (80 + y))
    obtain ⟨c1, c2⟩ := nN_of (by decide) (hT (40 * j + y))
    unfold f_X11_stockOf_12
    rw [if_neg (nI_ge (by omega) (by omega)), i1, rdM_43 (by omega), bS]
    simp only [bndE]
    rw [i2, rdM_43 (by omega), bS, b1, c1, nI_l (by omega), nI_l (by omega), mx1 (by omega) (by omega), th_mul (by omega) hm, lN_add, nI_1]
    exact ih (y + 1) n (by omega) (by omega)
theorem swM {τ : St} (hB : Bn 99999999 (τ.2.1 41)) (hT : Bn 9999999 (τ.2.1 43)) {j m Y : Nat} (hj : j < 2) (hY : Y ≤ 40) (hm : m ≤ 1000) : f_X11_stockOf (nI j) (nI Y) (nI m) τ = some (lN (sk (τ.2.1 41) (τ.2.1 43) j m Y)) := by
  obtain ⟨b1, b2⟩ := nN_of (by decide) (hB j)
  unfold f_X11_stockOf
  rw [rdM_41 hj, bS, b1, nI_l (by omega)]
  exact swM_loop hB hT hj hY hm Y 0 FU (by omega) (by unfold FU; omega)
/-! the questions about stocks -/
theorem q_stock (s y : Int32) {σ τ : St} (h : M_stk σ τ) : ∃ r, f_X10_stock s y σ = some r ∧ f_X11_stock s y τ = some r := by
  obtain ⟨a1, a2, a3, a4, a5, a6⟩ := id h
  by_cases hg : (0 ≤ s.toInt ∧ s.toInt ≤ 1) ∧ 0 ≤ y.toInt ∧ y.toInt ≤ 39
  · obtain ⟨g1, g2⟩ := hg
    obtain ⟨i, hi, rfl⟩ := nI_btw (n := 1) g1.1 g1.2
    obtain ⟨j, hj, rfl⟩ := nI_btw (n := 39) g2.1 g2.2
    have ei := nI_toInt (show i < 2 ^ 31 by omega)
    have ej := nI_toInt (show j < 2 ^ 31 by omega)
    obtain ⟨L, hL, eL⟩ := a5 i
    refine ⟨lN (sk (σ.2.1 50) (σ.2.1 52) i L j), ?_, ?_⟩
    · unfold f_X10_stock
      simp only [lies0, in0, wdL, side0, author0, minute0, year0, week0, cell0, mside0, mminute0, myear0, mweek0, mship0, mtown0, ship0, town0, law0, mcell0, gF, ltI, leI, Int32.reduceToInt, Int64.reduceToInt, ei, ej]
      rw [if_neg (by omega), if_neg (by omega), rdC_51 (by omega), bS, eL, swC a4 a6 (by omega) (by omega) hL]
      rfl
    · unfold f_X11_stock
      simp only [lies0, in0, wdL, side0, author0, minute0, year0, week0, cell0, mside0, mminute0, myear0, mweek0, mship0, mtown0, ship0, town0, law0, mcell0, gF, ltI, leI, Int32.reduceToInt, Int64.reduceToInt, ei, ej]
      rw [if_neg (by omega), if_neg (by omega), rdM_42 (by omega), bS, ← a2, eL, swM (a1 ▸ a4) (a3 ▸ a6) (by omega) (by omega) hL, ← a1, ← a3]
      rfl
  · refine ⟨-1, ?_, ?_⟩
    · unfold f_X10_stock
      simp only [lies0, in0, wdL, side0, author0, minute0, year0, week0, cell0, mside0, mminute0, myear0, mweek0, mship0, mtown0, ship0, town0, law0, mcell0, gF, ltI, leI, Int32.reduceToInt, Int64.reduceToInt]
      (repeat' split) <;> first | rfl | (exfalso; omega)
    · unfold f_X11_stock f_X11_stock_29
      simp only [lies0, in0, wdL, side0, author0, minute0, year0, week0, cell0, mside0, mminute0, myear0, mweek0, mship0, mtown0, ship0, town0, law0, mcell0, gF, ltI, leI, Int32.reduceToInt, Int64.reduceToInt]
      (repeat' split) <;> first | rfl | (exfalso; omega)
theorem fails_loop {σ τ : St} (h : M_stk σ τ) {j L : Nat} (hj : j < 2) (hL : L ≤ 1000) (eL : σ.2.1 51 j = nI L) : ∀ (k y n n' : Nat), y + k = 40 → k < n → k < n' → ∃ r, f_X8_failsIn_22 (nI j) σ n (lN (sk (σ.2.1 50) (σ.2.1 52) j L y)) (nI y) = some r ∧ f_X11_fails__11 (nI j) τ n' (nI y) = some r := by
  obtain ⟨a1, a2, a3, a4, a5, a6⟩ := id h
  have eM : τ.2.1 42 j = nI L := by rw [← a2]; exact eL
  intro k
  induction k with
  | zero =>
    intro y n n' hy hn hn'
    obtain ⟨n, rfl⟩ : ∃ q, n = q + 1 := ⟨n - 1, by omega⟩
    obtain ⟨n', rfl⟩ : ∃ q, n' = q + 1 := ⟨n' - 1, by omega⟩
    have : y = 40 := by omega
    subst this
    have h40 : (40 : Int32) ≤ nI 40 := nI_le (a := 40) (Nat.le_refl _) (by decide)
    refine ⟨-2, ?_, ?_⟩
    · unfold f_X8_failsIn_22; rw [if_pos h40]
    · unfold f_X11_fails__11; rw [if_pos h40]
  | succ k ih =>
    intro y n n' hy hn hn'
    obtain ⟨n, rfl⟩ : ∃ q, n = q + 1 := ⟨n - 1, by omega⟩
    obtain ⟨n', rfl⟩ : ∃ q, n' = q + 1 := ⟨n' - 1, by omega⟩
    have hs := sk_le a4 a6 j L y
    have t1 : f_X8_toldOf 2 (nI y) σ = some (σ.2.1 52 (80 + y)) := toldC (r := 2) (by decide) (by omega) σ
    have i1 : 80 + nI y = nI (80 + y) := nI_add 80 y
    have hlt : ¬ (40 : Int32) ≤ nI y := nI_ge (b := 40) (by omega) (by decide)
    have hM := swM (a1 ▸ a4 : Bn 99999999 (τ.2.1 41)) (a3 ▸ a6 : Bn 9999999 (τ.2.1 43)) hj (show y ≤ 40 by omega) hL
    rw [← a1, ← a3] at hM
    obtain ⟨r, h1, h2⟩ := ih (y + 1) n n' (by omega) (by omega) (by omega)
    by_cases hc : (σ.2.1 52 (80 + y)).toInt64 ≤ lN (sk (σ.2.1 50) (σ.2.1 52) j L y)
    · refine ⟨r, ?_, ?_⟩
      · unfold f_X8_failsIn_22
        rw [if_neg hlt, t1, bS, if_pos hc, rdC_51 hj, bS, eL, nextC a6 hj (by omega) hL (by omega), bS, bndE, nI_1]
        exact h1
      · unfold f_X11_fails__11
        rw [if_neg hlt, i1, rdM_43 (by omega), bS, rdM_42 hj, bS, eM, hM, bS, ← a3, if_pos hc, bndE, nI_1]
        exact h2
    · refine ⟨nI y, ?_, ?_⟩
      · unfold f_X8_failsIn_22
        rw [if_neg hlt, t1, bS, if_neg hc]
      · unfold f_X11_fails__11
        rw [if_neg hlt, i1, rdM_43 (by omega), bS, rdM_42 hj, bS, eM, hM, bS, ← a3, if_neg hc]
theorem q_fails (s : Int32) {σ τ : St} (h : M_stk σ τ) : ∃ r, f_X10_fails s σ = some r ∧ f_X11_fails_ s τ = some r := by
  obtain ⟨a1, a2, a3, a4, a5, a6⟩ := id h
  by_cases hg : 0 ≤ s.toInt ∧ s.toInt ≤ 1
  · obtain ⟨i, hi, rfl⟩ := nI_btw (n := 1) hg.1 hg.2
    have ei := nI_toInt (show i < 2 ^ 31 by omega)
    obtain ⟨b1, b2⟩ := nN_of (by decide) (a4 i)
    obtain ⟨L, hL, eL⟩ := a5 i
    obtain ⟨r, h1, h2⟩ := fails_loop h (show i < 2 by omega) hL eL 40 0 FU FU (by omega) (by unfold FU; omega) (by unfold FU; omega)
    refine ⟨r, ?_, ?_⟩
    · unfold f_X10_fails f_X8_failsIn
      simp only [lies0, in0, wdL, side0, author0, minute0, year0, week0, cell0, mside0, mminute0, myear0, mweek0, mship0, mtown0, ship0, town0, law0, mcell0, gF, ltI, leI, Int32.reduceToInt, Int64.reduceToInt, ei]
      rw [if_neg (by omega), if_neg (by omega), rdC_50 (by omega), bS, b1, nI_l (by omega)]
      rw [show f_X8_failsIn_22 (nI i) σ FU (lN (nN (σ.2.1 50 i))) 0 = some r from h1]
      rfl
    · unfold f_X11_fails_
      simp only [lies0, in0, wdL, side0, author0, minute0, year0, week0, cell0, mside0, mminute0, myear0, mweek0, mship0, mtown0, ship0, town0, law0, mcell0, gF, ltI, leI, Int32.reduceToInt, Int64.reduceToInt, ei]
      rw [if_neg (by omega)]
      exact h2
  · refine ⟨-1, ?_, ?_⟩
    · unfold f_X10_fails
      simp only [lies0, in0, wdL, side0, author0, minute0, year0, week0, cell0, mside0, mminute0, myear0, mweek0, mship0, mtown0, ship0, town0, law0, mcell0, gF, ltI, leI, Int32.reduceToInt, Int64.reduceToInt]
      (repeat' split) <;> first | rfl | (exfalso; omega)
    · unfold f_X11_fails_
      simp only [lies0, in0, wdL, side0, author0, minute0, year0, week0, cell0, mside0, mminute0, myear0, mweek0, mship0, mtown0, ship0, town0, law0, mcell0, gF, ltI, leI, Int32.reduceToInt, Int64.reduceToInt]
      (repeat' split) <;> first | rfl | (exfalso; omega)
/-! agree: the first of those nearest -/
def dS (a b : Nat) : Nat := (a - b) + (b - a)
/-- r is the first of 0 .. n - 1 with the least d -/
def FM (d : Nat → Nat) (n r : Nat) : Prop := r < n ∧ (∀ m, m < n → d r ≤ d m) ∧ ∀ m, m < r → d r < d m
theorem FM.uniq {d : Nat → Nat} {n r s : Nat} (h : FM d n r) (g : FM d n s) : r = s := by
  rcases Nat.lt_trichotomy r s with c | c | c
  · have h1 := g.2.2 r c
    have h2 := h.2.1 s g.1
    omega
  · exact c
  · have h1 := h.2.2 s c
    have h2 := g.2.1 r h.1
    omega
theorem leastLoss_loop {σ : St} (hB : Bn 99999999 (σ.2.1 50)) (hT : Bn 9999999 (σ.2.1 52)) {j Y A : Nat} (hj : j < 2) (hY : Y ≤ 40) (hA : A < 1000000000) : ∀ (k lo hi i n : Nat), hi - lo < 2 ^ k → lo ≤ hi → hi ≤ 1001 → i + k ≤ 12 → k < n → (∀ m, m < lo → A < sk (σ.2.1 50) (σ.2.1 52) j m Y) → (hi ≤ 1000 → sk (σ.2.1 50) (σ.2.1 52) j hi Y ≤ A) → ∃ L, L ≤ 1001 ∧ f_X8_leastLoss_11 (nI j) (nI Y) (lN A) σ n (nI lo) (nI hi) (nI i) = some (nI L) ∧ (∀ m, m < L → A < sk (σ.2.1 50) (σ.2.1 52) j m Y) ∧ (L ≤ 1000 → sk (σ.2.1 50) (σ.2.1 52) j L Y ≤ A) := by
  intro k
  induction k with
  | zero =>
    intro lo hi i n h1 h2 h3 h4 h5 h6 h7
    obtain ⟨n, rfl⟩ : ∃ q, n = q + 1 := ⟨n - 1, by omega⟩
    have : lo = hi := by omega
    subst this
    refine ⟨lo, h3, ?_, h6, h7⟩
    unfold f_X8_leastLoss_11
    by_cases c : (12 : Int32) ≤ nI i
    · rw [if_pos c]
    · rw [if_neg c, if_pos (nI_le (Nat.le_refl _) (by omega))]
  | succ k ih =>
    intro lo hi i n h1 h2 h3 h4 h5 h6 h7
    obtain ⟨n, rfl⟩ : ∃ q, n = q + 1 := ⟨n - 1, by omega⟩
    have c : ¬ (12 : Int32) ≤ nI i := nI_ge (b := 12) (by omega) (by decide)
    unfold f_X8_leastLoss_11
    rw [if_neg c]
    by_cases e : lo = hi
    · subst e
      exact ⟨lo, h3, by rw [if_pos (nI_le (Nat.le_refl _) (by omega))], h6, h7⟩
    · have hp : 2 ^ (k + 1) = 2 * 2 ^ k := by rw [Nat.pow_succ, Nat.mul_comm]
      have em : (nI lo + nI hi) / 2 = nI ((lo + hi) / 2) := by rw [nI_add]; exact pk_div (d := 2) (by omega) (by decide) (by decide)
      have hs := sk_le hB hT j ((lo + hi) / 2) Y
      rw [if_neg (nI_ge (by omega) (by omega)), em, bndE, swC hB hT hj hY (by omega), bS]
      unfold f_X8_leastLoss_60
      by_cases d : A < sk (σ.2.1 50) (σ.2.1 52) j ((lo + hi) / 2) Y
      · rw [if_pos ((pk_lLT (by omega) (by omega)).mpr d), bndE, bndE, nI_1, nI_1]
        refine ih ((lo + hi) / 2 + 1) hi (i + 1) n (by omega) (by omega) h3 (by omega) (by omega) (fun m hm => ?_) h7
        exact Nat.lt_of_lt_of_le d (stN_mono (by omega) Y)
      · rw [if_neg (fun z => d ((pk_lLT (by omega) (by omega)).mp z)), bndE, nI_1]
        exact ih lo ((lo + hi) / 2) (i + 1) n (by omega) (by omega) (by omega) (by omega) (by omega) h6 (fun _ => by omega)
theorem leastLoss_is {σ : St} (hB : Bn 99999999 (σ.2.1 50)) (hT : Bn 9999999 (σ.2.1 52)) {j Y A : Nat} (hj : j < 2) (hY : Y ≤ 40) (hA : A < 1000000000) : ∃ L, L ≤ 1001 ∧ f_X8_leastLoss (nI j) (nI Y) (lN A) σ = some (nI L) ∧ (∀ m, m < L → A < sk (σ.2.1 50) (σ.2.1 52) j m Y) ∧ (L ≤ 1000 → sk (σ.2.1 50) (σ.2.1 52) j L Y ≤ A) :=
  leastLoss_loop hB hT hj hY hA 10 0 1001 0 FU (by decide) (by decide) (by decide) (by decide) (by unfold FU; omega) (fun m h => absurd h (by omega)) (fun h => absurd h (by decide))
theorem nearest_is {σ : St} (hB : Bn 99999999 (σ.2.1 50)) (hT : Bn 9999999 (σ.2.1 52)) {j Y A : Nat} (hj : j < 2) (hY : Y ≤ 40) (hA : A < 1000000000) : ∃ r, f_X8_nearestLoss (nI j) (nI Y) (lN A) σ = some (nI r) ∧ FM (fun m => dS (sk (σ.2.1 50) (σ.2.1 52) j m Y) A) 1001 r := by
  obtain ⟨L, hL, e, p1, p2⟩ := leastLoss_is hB hT hj hY hA
  have mo : ∀ m m', m ≤ m' → sk (σ.2.1 50) (σ.2.1 52) j m' Y ≤ sk (σ.2.1 50) (σ.2.1 52) j m Y := fun m m' h => stN_mono h Y
  have bd : ∀ m, sk (σ.2.1 50) (σ.2.1 52) j m Y < 1000000000 := fun m => by have := sk_le hB hT j m Y; omega
  unfold f_X8_nearestLoss
  rw [e, bS]
  by_cases h0 : L = 0
  · subst h0
    refine ⟨0, by rw [if_pos (show nI 0 = 0 from rfl)]; rfl, by omega, fun m hm => ?_, fun m hm => absurd hm (by omega)⟩
    have h1 := mo 0 m (by omega)
    have h2 := p2 (by omega)
    show dS _ A ≤ dS _ A
    unfold dS
    omega
  · have hn : ¬ nI L = 0 := nI_ne0 (by omega) (by omega)
    have e1 : nI L - 1 = nI (L - 1) := nIs L (by omega)
    have e2 : f_J9_min_7cf53 (nI L) 1000 = nI (min L 1000) := by
      unfold f_J9_min_7cf53
      by_cases c : 1000 < L
      · rw [if_pos (show (1000 : Int32) < nI L from nI_lt (a := 1000) c (by omega)), show min L 1000 = 1000 by omega]; rfl
      · rw [if_neg (show ¬ (1000 : Int32) < nI L from fun z => c ((nI_ltI (a := 1000) (by decide) (by omega)).mp z)), show min L 1000 = L by omega]
    rw [if_neg hn, e1, swC hB hT hj hY (by omega), bS, e2, swC hB hT hj hY (by omega), bS]
    obtain ⟨R, hR, e', q1, q2⟩ := leastLoss_is hB hT hj hY (bd (L - 1))
    have m1 := p1 (L - 1) (by omega)
    have hRL : R ≤ L - 1 := by
      apply Nat.le_of_not_lt
      intro z
      have := q1 (L - 1) z
      omega
    have hRv : sk (σ.2.1 50) (σ.2.1 52) j R Y = sk (σ.2.1 50) (σ.2.1 52) j (L - 1) Y := Nat.le_antisymm (q2 (by omega)) (mo R (L - 1) hRL)
    have tail : (1000 < L ∨ sk (σ.2.1 50) (σ.2.1 52) j (L - 1) Y - A ≤ A - sk (σ.2.1 50) (σ.2.1 52) j L Y) → ∃ r, f_X8_nearestLoss_67 (nI j) (nI Y) (lN (sk (σ.2.1 50) (σ.2.1 52) j (L - 1) Y)) σ = some (nI r) ∧ FM (fun m => dS (sk (σ.2.1 50) (σ.2.1 52) j m Y) A) 1001 r := by
      intro hc
      refine ⟨R, by unfold f_X8_nearestLoss_67; rw [e']; rfl, by omega, fun m hm => ?_, fun m hm => ?_⟩
      · show dS _ A ≤ dS _ A
        rw [hRv]
        by_cases cm : m ≤ L - 1
        · have := mo m (L - 1) cm
          unfold dS
          omega
        · rcases hc with hc | hc
          · omega
          · have h1 := mo L m (by omega)
            have h2 := p2 (by omega)
            unfold dS
            omega
      · show dS _ A < dS _ A
        rw [hRv]
        have := q1 m hm
        unfold dS
        omega
    by_cases c : 1000 < L
    · rw [if_pos (show (1000 : Int32) < nI L from nI_lt (a := 1000) c (by omega))]
      exact tail (Or.inl c)
    · rw [if_neg (show ¬ (1000 : Int32) < nI L from fun z => c ((nI_ltI (a := 1000) (by decide) (by omega)).mp z)), show min L 1000 = L by omega]
      have h2 := p2 (by omega)
      have b1 := bd (L - 1)
      have b2 := bd L
      have t1 := pk_lT (n := sk (σ.2.1 50) (σ.2.1 52) j (L - 1) Y) (by omega)
      have t2 := pk_lT (n := sk (σ.2.1 50) (σ.2.1 52) j L Y) (by omega)
      have t3 := pk_lT (n := A) (by omega)
      have s1 : (lN (sk (σ.2.1 50) (σ.2.1 52) j (L - 1) Y) - lN A).toInt = (sk (σ.2.1 50) (σ.2.1 52) j (L - 1) Y : Int) - A := by rw [subL (by omega) (by omega), t1, t3]
      have s2 : (lN A - lN (sk (σ.2.1 50) (σ.2.1 52) j L Y)).toInt = (A : Int) - sk (σ.2.1 50) (σ.2.1 52) j L Y := by rw [subL (by omega) (by omega), t2, t3]
      by_cases d : sk (σ.2.1 50) (σ.2.1 52) j (L - 1) Y - A ≤ A - sk (σ.2.1 50) (σ.2.1 52) j L Y
      · rw [if_pos (by rw [leL, s1, s2]; omega)]
        exact tail (Or.inr d)
      · rw [if_neg (by rw [leL, s1, s2]; omega)]
        refine ⟨L, rfl, by omega, fun m hm => ?_, fun m hm => ?_⟩
        · show dS _ A ≤ dS _ A
          by_cases cm : m ≤ L - 1
          · have := mo m (L - 1) cm
            unfold dS
            omega
          · have := mo L m (by omega)
            unfold dS
            omega
        · show dS _ A < dS _ A
          have := mo m (L - 1) (by omega)
          unfold dS
          omega
theorem agreeM_loop {τ : St} (hB : Bn 99999999 (τ.2.1 41)) (hT : Bn 9999999 (τ.2.1 43)) {j Y A : Nat} (hj : j < 2) (hY : Y ≤ 40) (hA : A < 1000000000) : ∀ (k m n b : Nat), m + k = 1001 → k < n → FM (fun m => dS (sk (τ.2.1 41) (τ.2.1 43) j m Y) A) m b → ∃ r, f_X11_agree_44 (nI j) (nI Y) (lN A) τ n (nI b) (lN (dS (sk (τ.2.1 41) (τ.2.1 43) j b Y) A)) (nI m) = some (nI r) ∧ FM (fun m => dS (sk (τ.2.1 41) (τ.2.1 43) j m Y) A) 1001 r := by
  have bd : ∀ m, sk (τ.2.1 41) (τ.2.1 43) j m Y < 1000000000 := fun m => by have := sk_le hB hT j m Y; omega
  intro k
  induction k with
  | zero =>
    intro m n b h1 h2 h3
    obtain ⟨n, rfl⟩ : ∃ q, n = q + 1 := ⟨n - 1, by omega⟩
    have : m = 1001 := by omega
    subst this
    refine ⟨b, ?_, h3⟩
    unfold f_X11_agree_44
    rw [if_pos (show (1000 : Int32) < nI 1001 from nI_lt (a := 1000) (b := 1001) (by decide) (by decide))]
  | succ k ih =>
    intro m n b h1 h2 h3
    obtain ⟨n, rfl⟩ : ∃ q, n = q + 1 := ⟨n - 1, by omega⟩
    have t1 := pk_lT (n := sk (τ.2.1 41) (τ.2.1 43) j m Y) (by have := bd m; omega)
    have t3 := pk_lT (n := A) (by omega)
    have bm := bd m
    have bb := bd b
    have s1 : (lN (sk (τ.2.1 41) (τ.2.1 43) j m Y) - lN A).toInt = (sk (τ.2.1 41) (τ.2.1 43) j m Y : Int) - A := by rw [subL (by omega) (by omega), t1, t3]
    have key : ∀ y0 : Int64, y0 = lN (dS (sk (τ.2.1 41) (τ.2.1 43) j m Y) A) → ∃ r, f_X11_agree_79 (nI j) (nI Y) (lN A) (nI b) (lN (dS (sk (τ.2.1 41) (τ.2.1 43) j b Y) A)) (nI m) y0 τ (f_X11_agree_44 (nI j) (nI Y) (lN A) τ n) = some (nI r) ∧ FM (fun m => dS (sk (τ.2.1 41) (τ.2.1 43) j m Y) A) 1001 r := by
      intro y0 ey
      subst ey
      have d1 : dS (sk (τ.2.1 41) (τ.2.1 43) j m Y) A < 1000000000 := by unfold dS; omega
      have d2 : dS (sk (τ.2.1 41) (τ.2.1 43) j b Y) A < 1000000000 := by unfold dS; omega
      unfold f_X11_agree_79 f_X11_agree_99 f_X11_agree_107
      rw [if_neg (by rw [ltL, pk_lT (by omega)]; show ¬ _ < (0 : Int); omega)]
      by_cases c : dS (sk (τ.2.1 41) (τ.2.1 43) j m Y) A < dS (sk (τ.2.1 41) (τ.2.1 43) j b Y) A
      · rw [if_pos ((pk_lLT (by omega) (by omega)).mpr c), bndE, nI_1]
        refine ih (m + 1) n m (by omega) (by omega) ⟨by omega, fun q hq => ?_, fun q hq => ?_⟩
        · show dS _ A ≤ dS _ A
          by_cases e : q = m
          · subst e; exact Nat.le_refl _
          · have := h3.2.1 q (by omega)
            have this : dS (sk (τ.2.1 41) (τ.2.1 43) j b Y) A ≤ dS (sk (τ.2.1 41) (τ.2.1 43) j q Y) A := this
            omega
        · show dS _ A < dS _ A
          have this : dS (sk (τ.2.1 41) (τ.2.1 43) j b Y) A ≤ dS (sk (τ.2.1 41) (τ.2.1 43) j q Y) A := h3.2.1 q (by omega)
          omega
      · rw [if_neg (fun z => c ((pk_lLT (by omega) (by omega)).mp z)), bndE, nI_1]
        refine ih (m + 1) n b (by omega) (by omega) ⟨by have := h3.1; omega, fun q hq => ?_, h3.2.2⟩
        show dS _ A ≤ dS _ A
        by_cases e : q = m
        · subst e; omega
        · exact h3.2.1 q (by omega)
    unfold f_X11_agree_44
    rw [if_neg (show ¬ (1000 : Int32) < nI m from fun z => by have := (nI_ltI (a := 1000) (by decide) (by omega)).mp z; omega), swM hB hT hj hY (by omega), bS, bndE]
    by_cases c : A ≤ sk (τ.2.1 41) (τ.2.1 43) j m Y
    · rw [if_pos (by rw [leL, s1]; show (0 : Int) ≤ _; omega)]
      refine key _ ?_
      rw [lN_sub c]
      congr 1
      unfold dS
      omega
    · rw [if_neg (by rw [leL, s1]; show ¬ (0 : Int) ≤ _; omega)]
      refine key _ (lN_ofI ?_)
      rw [Int64.toInt_neg, s1, Int.bmod_def]
      unfold dS
      omega
theorem q_agree (s y : Int32) {σ τ : St} (h : M_stk σ τ) : ∃ r, f_X10_agree s y σ = some r ∧ f_X11_agree s y τ = some r := by
  obtain ⟨a1, a2, a3, a4, a5, a6⟩ := id h
  by_cases hg : (0 ≤ s.toInt ∧ s.toInt ≤ 1) ∧ 0 ≤ y.toInt ∧ y.toInt ≤ 39
  · obtain ⟨g1, g2⟩ := hg
    obtain ⟨i, hi, rfl⟩ := nI_btw (n := 1) g1.1 g1.2
    obtain ⟨j, hj, rfl⟩ := nI_btw (n := 39) g2.1 g2.2
    have ei := nI_toInt (show i < 2 ^ 31 by omega)
    have ej := nI_toInt (show j < 2 ^ 31 by omega)
    obtain ⟨L, hL, eL⟩ := a5 (1 - i)
    have eM : τ.2.1 42 (1 - i) = nI L := by rw [← a2]; exact eL
    have ex : (1 : Int32) - nI i = nI (1 - i) := pk_sub (a := 1) hi
    have hA : sk (σ.2.1 50) (σ.2.1 52) (1 - i) L j < 1000000000 := by have := sk_le a4 a6 (1 - i) L j; omega
    obtain ⟨r, n1, n2⟩ := nearest_is a4 a6 (show i < 2 by omega) (show j ≤ 40 by omega) hA
    have hB' : Bn 99999999 (τ.2.1 41) := a1 ▸ a4
    have hT' : Bn 9999999 (τ.2.1 43) := a3 ▸ a6
    refine ⟨nI r, ?_, ?_⟩
    · unfold f_X10_agree
      simp only [lies0, in0, wdL, side0, author0, minute0, year0, week0, cell0, mside0, mminute0, myear0, mweek0, mship0, mtown0, ship0, town0, law0, mcell0, gF, ltI, leI, Int32.reduceToInt, Int64.reduceToInt, ei, ej]
      rw [if_neg (by omega), if_neg (by omega), ex, rdC_51 (by omega), bS, eL, swC a4 a6 (by omega) (by omega) hL, bS, n1]
      rfl
    · unfold f_X11_agree
      simp only [lies0, in0, wdL, side0, author0, minute0, year0, week0, cell0, mside0, mminute0, myear0, mweek0, mship0, mtown0, ship0, town0, law0, mcell0, gF, ltI, leI, Int32.reduceToInt, Int64.reduceToInt, ei, ej]
      rw [if_neg (by omega), if_neg (by omega), ex, rdM_42 (by omega), bS, eM, swM hB' hT' (by omega) (by omega) hL, bS, ← a1, ← a3]
      -- the first step of the loop
      obtain ⟨r', m1, m2⟩ : ∃ r', f_X11_agree_44 (nI i) (nI j) (lN (sk (σ.2.1 50) (σ.2.1 52) (1 - i) L j)) τ FU 0 (-1) 0 = some (nI r') ∧ FM (fun m => dS (sk (τ.2.1 41) (τ.2.1 43) i m j) (sk (σ.2.1 50) (σ.2.1 52) (1 - i) L j)) 1001 r' := by
        have first := agreeM_loop hB' hT' (show i < 2 by omega) (show j ≤ 40 by omega) hA 1000 1 69999 0 (by omega) (by omega) ⟨by omega, fun m hm => by rw [show m = 0 by omega]; exact Nat.le_refl _, fun m hm => absurd hm (by omega)⟩
        obtain ⟨r', f1, f2⟩ := first
        refine ⟨r', ?_, f2⟩
        have hs := sk_le hB' hT' i 0 j
        have t1 := pk_lT (n := sk (τ.2.1 41) (τ.2.1 43) i 0 j) (by omega)
        have t3 := pk_lT (n := sk (σ.2.1 50) (σ.2.1 52) (1 - i) L j) (by omega)
        have s1 : (lN (sk (τ.2.1 41) (τ.2.1 43) i 0 j) - lN (sk (σ.2.1 50) (σ.2.1 52) (1 - i) L j)).toInt = (sk (τ.2.1 41) (τ.2.1 43) i 0 j : Int) - sk (σ.2.1 50) (σ.2.1 52) (1 - i) L j := by rw [subL (by omega) (by omega), t1, t3]
        have sw0 : f_X11_stockOf (nI i) (nI j) 0 τ = some (lN (sk (τ.2.1 41) (τ.2.1 43) i 0 j)) := swM (m := 0) hB' hT' (by omega) (by omega) (by omega)
        rw [fuel_s]
        unfold f_X11_agree_44
        rw [if_neg (by decide), sw0, bS, bndE]
        unfold f_X11_agree_79 f_X11_agree_99 f_X11_agree_107
        rw [if_pos (show (-1 : Int64) < 0 by decide), if_pos (show (-1 : Int64) < 0 by decide), bndE, bndE, show (0 : Int32) + 1 = nI 1 from rfl]
        by_cases c : sk (σ.2.1 50) (σ.2.1 52) (1 - i) L j ≤ sk (τ.2.1 41) (τ.2.1 43) i 0 j
        · rw [if_pos (by rw [leL, s1]; show (0 : Int) ≤ _; omega), lN_sub c]
          rw [show dS (sk (τ.2.1 41) (τ.2.1 43) i 0 j) (sk (σ.2.1 50) (σ.2.1 52) (1 - i) L j) = sk (τ.2.1 41) (τ.2.1 43) i 0 j - sk (σ.2.1 50) (σ.2.1 52) (1 - i) L j by unfold dS; omega] at f1
          exact f1
        · rw [if_neg (by rw [leL, s1]; show ¬ (0 : Int) ≤ _; omega)]
          have e : -(lN (sk (τ.2.1 41) (τ.2.1 43) i 0 j) - lN (sk (σ.2.1 50) (σ.2.1 52) (1 - i) L j)) = lN (dS (sk (τ.2.1 41) (τ.2.1 43) i 0 j) (sk (σ.2.1 50) (σ.2.1 52) (1 - i) L j)) := by
            apply lN_ofI
            rw [Int64.toInt_neg, s1, Int.bmod_def]
            unfold dS
            omega
          rw [e]
          exact f1
      rw [m1]
      rw [← a1, ← a3] at m2
      rw [FM.uniq m2 n2]
  · refine ⟨-1, ?_, ?_⟩
    · unfold f_X10_agree
      simp only [lies0, in0, wdL, side0, author0, minute0, year0, week0, cell0, mside0, mminute0, myear0, mweek0, mship0, mtown0, ship0, town0, law0, mcell0, gF, ltI, leI, Int32.reduceToInt, Int64.reduceToInt]
      (repeat' split) <;> first | rfl | (exfalso; omega)
    · unfold f_X11_agree
      simp only [lies0, in0, wdL, side0, author0, minute0, year0, week0, cell0, mside0, mminute0, myear0, mweek0, mship0, mtown0, ship0, town0, law0, mcell0, gF, ltI, leI, Int32.reduceToInt, Int64.reduceToInt]
      (repeat' split) <;> first | rfl | (exfalso; omega)
