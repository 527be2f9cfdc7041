/-! what belongs together in the two states, piece by piece -/
def M_now (σ τ : St) : Prop := ∃ n : Nat, n ≤ 8999 ∧ σ.1 0 = nI n ∧ τ.1 0 = nI n
def M_dep (σ τ : St) : Prop := σ.2.1 14 = τ.2.1 1
def M_pts (σ τ : St) : Prop := σ.2.1 15 = τ.2.1 16 ∧ σ.2.1 16 = τ.2.1 17 ∧ σ.2.1 17 = τ.2.1 15 ∧ σ.1 104 = τ.1 21 ∧ σ.1 105 = τ.1 22 ∧ ∀ k, k < 2 → ∃ m : Nat, m ≤ 16 ∧ σ.2.1 17 k = nI m
def M_shp (σ τ : St) : Prop := ∃ n : Nat, n ≤ 40 ∧ σ.1 204 = nI n ∧ τ.1 2 = nI n ∧ σ.2.1 18 = τ.2.1 2 ∧ σ.2.1 19 = τ.2.1 3 ∧ σ.2.1 20 = τ.2.1 4 ∧ σ.2.1 21 = τ.2.1 5
def Op {α : Type} (fc fm : Option (α × St)) (P : St → St → Prop) (F G : List Nat × List Nat × List Nat) (σ τ : St) : Prop := ∃ (r : α) (σ' τ' : St), fc = some (r, σ') ∧ fm = some (r, τ') ∧ P σ' τ' ∧ Fr F.1 F.2.1 F.2.2 σ σ' ∧ Fr G.1 G.2.1 G.2.2 τ τ'
theorem Op.no {α : Type} {fc fm : Option (α × St)} {P : St → St → Prop} {F G : List Nat × List Nat × List Nat} {σ τ : St} (r : α) (h1 : fc = some (r, σ)) (h2 : fm = some (r, τ)) (h : P σ τ) : Op fc fm P F G σ τ := ⟨r, σ, τ, h1, h2, h, Fr.rf, Fr.rf⟩
theorem o_clock (x : Int32) {σ τ : St} (h : M_now σ τ) : Op (f_X10_clock x σ) (f_X11_clock x τ) M_now ([0], [], []) ([0], [], []) σ τ := by
  obtain ⟨n, hn, h1, h2⟩ := h
  have e1 := nI_toInt (show n < 2 ^ 31 by omega)
  unfold f_X10_clock f_X11_clock
  simp only [lies0, in0, wdL, side0, author0, minute0, year0, week0, cell0, mside0, mminute0, myear0, mweek0, mship0, mtown0, ship0, town0, law0, mcell0, gF, ltI, leI, Int32.reduceToInt, Int64.reduceToInt, h1, h2, e1]
  by_cases hc : (n : Int) ≤ x.toInt ∧ x.toInt ≤ 8999
  · rw [if_neg (fun h => h hc), if_neg (fun h => h hc)]
    obtain ⟨j, hj, rfl⟩ := nI_btw (n := 8999) (by omega) hc.2
    exact ⟨1, _, _, rfl, rfl, ⟨j, hj, rfl, rfl⟩, Fr.rf.wF (by decide), Fr.rf.wF (by decide)⟩
  · rw [if_pos hc, if_pos hc]
    exact Op.no 0 rfl rfl ⟨n, hn, h1, h2⟩
theorem o_depth (x y z : Int32) {σ τ : St} (h : M_dep σ τ) : Op (f_X10_depth x y z σ) (f_X11_depth x y z τ) M_dep ([], [14], []) ([], [1], []) σ τ := by
  unfold f_X10_depth f_X11_depth f_X6_changeDepth
  simp only [lies0, in0, wdL, side0, author0, minute0, year0, week0, cell0, mside0, mminute0, myear0, mweek0, mship0, mtown0, ship0, town0, law0, mcell0, gF, ltI, leI, Int32.reduceToInt, Int64.reduceToInt]
  by_cases hc : 0 ≤ x.toInt ∧ x.toInt ≤ 23 ∧ 0 ≤ y.toInt ∧ y.toInt ≤ 23
  · simp only [if_neg (not_not_intro hc)]
    by_cases hd : 0 ≤ z.toInt ∧ z.toInt ≤ 999
    · simp only [if_neg (not_not_intro hd)]
      obtain ⟨i, hi, rfl⟩ := nI_btw (n := 23) hc.1 hc.2.1
      obtain ⟨j, hj, rfl⟩ := nI_btw (n := 23) hc.2.2.1 hc.2.2.2
      have e : (24 : Int32) * nI j + nI i = nI (24 * j + i) := ixc 24 j i
      have hb : 24 * j + i < 576 := by omega
      simp only [e, bS, bndE, gF, sA1, sL1, stA1, stL1, sF1, sA2, sL2, stA2, stL2, sF2, sA3, sL3, stA3, stL3, sF3, Nat.reduceEqDiff, Nat.reduceLT, reduceIte, rlC_11, wlC_11, rlC_12, wlC_12, rdC_13, wrC_13, rdC_14, wrC_14, rdC_15, wrC_15, rdC_16, wrC_16, rdC_17, wrC_17, rdC_18, wrC_18, rdC_19, wrC_19, rdC_20, wrC_20, rdC_21, wrC_21, rdC_22, wrC_22, rdC_23, wrC_23, rdC_24, wrC_24, rdC_25, wrC_25, rdC_26, wrC_26, rdC_27, wrC_27, rdC_28, wrC_28, rdC_29, wrC_29, rdC_30, wrC_30, rdC_31, wrC_31, rdC_32, wrC_32, rdC_33, wrC_33, rdC_34, wrC_34, rdC_35, wrC_35, rdC_36, wrC_36, rdC_38, wrC_38, rdC_39, wrC_39, rdC_40, wrC_40, rdC_41, wrC_41, rdC_42, wrC_42, rdC_43, wrC_43, rlC_44, wlC_44, rdC_45, wrC_45, rdC_46, wrC_46, rdC_47, wrC_47, rdC_48, wrC_48, rdC_49, wrC_49, rdC_50, wrC_50, rdC_51, wrC_51, rdC_52, wrC_52, rdC_53, wrC_53, rdC_54, wrC_54, rdC_55, wrC_55, rlC_56, wlC_56, rlC_57, wlC_57, rdC_58, wrC_58, rdC_59, wrC_59, rdC_60, wrC_60, rdC_61, wrC_61, rdC_62, wrC_62, rdC_63, wrC_63, rdC_64, wrC_64, rdC_65, wrC_65, rdC_66, wrC_66, rdC_67, wrC_67, rlC_68, wlC_68, rdC_69, wrC_69, rdC_70, wrC_70, rdM_1, wrM_1, rdM_2, wrM_2, rdM_3, wrM_3, rdM_4, wrM_4, rdM_5, wrM_5, rdM_6, wrM_6, rdM_7, wrM_7, rdM_8, wrM_8, rdM_9, wrM_9, rdM_10, wrM_10, rdM_11, wrM_11, rdM_12, wrM_12, rdM_13, wrM_13, rdM_14, wrM_14, rdM_15, wrM_15, rdM_16, wrM_16, rdM_17, wrM_17, rdM_18, wrM_18, rdM_19, wrM_19, rdM_20, wrM_20, rdM_21, wrM_21, rdM_22, wrM_22, rdM_23, wrM_23, rdM_24, wrM_24, rdM_25, wrM_25, rdM_26, wrM_26, rdM_27, wrM_27, rdM_28, wrM_28, rdM_29, wrM_29, rdM_30, wrM_30, rlM_31, wlM_31, rlM_32, wlM_32, rlM_33, wlM_33, rdM_34, wrM_34, rdM_35, wrM_35, rdM_36, wrM_36, rdM_37, wrM_37, rdM_38, wrM_38, rdM_39, wrM_39, rdM_40, wrM_40, rdM_41, wrM_41, rdM_42, wrM_42, rdM_43, wrM_43, rdM_44, wrM_44, rdM_45, wrM_45, rdM_46, wrM_46, rlM_47, wlM_47, rdM_48, wrM_48, rdM_49, wrM_49, rdM_50, wrM_50, rdM_51, wrM_51, rdM_52, wrM_52, rdM_53, wrM_53, rdM_54, wrM_54, rdM_55, wrM_55, rdM_56, wrM_56, rdM_57, wrM_57, rdM_58, wrM_58, rdM_59, wrM_59, rlM_60, wlM_60, rdM_61, wrM_61, rdM_62, wrM_62, hb]
      refine ⟨_, _, _, rfl, by rw [← h], ?_, Fr.rf.wA (by decide), Fr.rf.wA (by decide)⟩
      show upd (σ.2.1 14) _ _ = upd (τ.2.1 1) _ _
      rw [h]
    · simp only [if_pos hd]
      exact Op.no _ rfl rfl h
  · simp only [if_pos hc]
    exact Op.no _ rfl rfl h
theorem o_ship (x y z w : Int32) {σ τ : St} (h : M_shp σ τ) : Op (f_X10_ship x y z w σ) (f_X11_ship x y z w τ) M_shp ([204], [18, 19, 20, 21], []) ([2], [2, 3, 4, 5], []) σ τ := by
  obtain ⟨n, hn, h1, h2, a1, a2, a3, a4⟩ := id h
  have e1 := nI_toInt (show n < 2 ^ 31 by omega)
  by_cases hg : n < 40 ∧ 0 ≤ x.toInt ∧ x.toInt ≤ 1 ∧ 0 ≤ y.toInt ∧ y.toInt ≤ 2 ∧ 1 ≤ z.toInt ∧ z.toInt ≤ 3 ∧ 0 ≤ w.toInt ∧ w.toInt ≤ 199
  · obtain ⟨g0, g1, g2, g3, g4, g5, g6, g7, g8⟩ := hg
    refine ⟨nI (n + 1) - 1, sF (sA (sA (sA (sA σ 18 n x) 19 n y) 20 n z) 21 n w) 204 (nI (n + 1)), sF (sA (sA (sA (sA τ 2 n x) 3 n y) 4 n z) 5 n w) 2 (nI (n + 1)), ?_, ?_, ⟨n + 1, g0, rfl, rfl, congrArg (upd · n x) a1, congrArg (upd · n y) a2, congrArg (upd · n z) a3, congrArg (upd · n w) a4⟩, ((((Fr.rf.wA (by decide)).wA (by decide)).wA (by decide)).wA (by decide)).wF (by decide), ((((Fr.rf.wA (by decide)).wA (by decide)).wA (by decide)).wA (by decide)).wF (by decide)⟩
    · unfold f_X10_ship f_X7_add
      rw [if_neg (by simp only [lies0, in0, wdL, side0, author0, minute0, year0, week0, cell0, mside0, mminute0, myear0, mweek0, mship0, mtown0, ship0, town0, law0, mcell0, gF, ltI, leI, Int32.reduceToInt, Int64.reduceToInt]; omega), if_neg (by simp only [lies0, in0, wdL, side0, author0, minute0, year0, week0, cell0, mside0, mminute0, myear0, mweek0, mship0, mtown0, ship0, town0, law0, mcell0, gF, ltI, leI, Int32.reduceToInt, Int64.reduceToInt]; omega), if_neg (by simp only [lies0, in0, wdL, side0, author0, minute0, year0, week0, cell0, mside0, mminute0, myear0, mweek0, mship0, mtown0, ship0, town0, law0, mcell0, gF, ltI, leI, Int32.reduceToInt, Int64.reduceToInt]; omega), if_neg (by simp only [lies0, in0, wdL, side0, author0, minute0, year0, week0, cell0, mside0, mminute0, myear0, mweek0, mship0, mtown0, ship0, town0, law0, mcell0, gF, ltI, leI, Int32.reduceToInt, Int64.reduceToInt]; omega), if_pos (by simp only [lies0, in0, wdL, side0, author0, minute0, year0, week0, cell0, mside0, mminute0, myear0, mweek0, mship0, mtown0, ship0, town0, law0, mcell0, gF, ltI, leI, Int32.reduceToInt, Int64.reduceToInt, h1, e1]; omega)]
      simp only [bS, bndE, gF, sA1, sL1, stA1, stL1, sF1, sA2, sL2, stA2, stL2, sF2, sA3, sL3, stA3, stL3, sF3, Nat.reduceEqDiff, Nat.reduceLT, reduceIte, rlC_11, wlC_11, rlC_12, wlC_12, rdC_13, wrC_13, rdC_14, wrC_14, rdC_15, wrC_15, rdC_16, wrC_16, rdC_17, wrC_17, rdC_18, wrC_18, rdC_19, wrC_19, rdC_20, wrC_20, rdC_21, wrC_21, rdC_22, wrC_22, rdC_23, wrC_23, rdC_24, wrC_24, rdC_25, wrC_25, rdC_26, wrC_26, rdC_27, wrC_27, rdC_28, wrC_28, rdC_29, wrC_29, rdC_30, wrC_30, rdC_31, wrC_31, rdC_32, wrC_32, rdC_33, wrC_33, rdC_34, wrC_34, rdC_35, wrC_35, rdC_36, wrC_36, rdC_38, wrC_38, rdC_39, wrC_39, rdC_40, wrC_40, rdC_41, wrC_41, rdC_42, wrC_42, rdC_43, wrC_43, rlC_44, wlC_44, rdC_45, wrC_45, rdC_46, wrC_46, rdC_47, wrC_47, rdC_48, wrC_48, rdC_49, wrC_49, rdC_50, wrC_50, rdC_51, wrC_51, rdC_52, wrC_52, rdC_53, wrC_53, rdC_54, wrC_54, rdC_55, wrC_55, rlC_56, wlC_56, rlC_57, wlC_57, rdC_58, wrC_58, rdC_59, wrC_59, rdC_60, wrC_60, rdC_61, wrC_61, rdC_62, wrC_62, rdC_63, wrC_63, rdC_64, wrC_64, rdC_65, wrC_65, rdC_66, wrC_66, rdC_67, wrC_67, rlC_68, wlC_68, rdC_69, wrC_69, rdC_70, wrC_70, h1, g0, nI_1]
    · unfold f_X11_ship
      rw [if_neg (by simp only [lies0, in0, wdL, side0, author0, minute0, year0, week0, cell0, mside0, mminute0, myear0, mweek0, mship0, mtown0, ship0, town0, law0, mcell0, gF, ltI, leI, Int32.reduceToInt, Int64.reduceToInt, eqI, h2, e1]; omega), if_neg (by simp only [lies0, in0, wdL, side0, author0, minute0, year0, week0, cell0, mside0, mminute0, myear0, mweek0, mship0, mtown0, ship0, town0, law0, mcell0, gF, ltI, leI, Int32.reduceToInt, Int64.reduceToInt]; omega), if_neg (by simp only [lies0, in0, wdL, side0, author0, minute0, year0, week0, cell0, mside0, mminute0, myear0, mweek0, mship0, mtown0, ship0, town0, law0, mcell0, gF, ltI, leI, Int32.reduceToInt, Int64.reduceToInt]; omega), if_neg (by simp only [lies0, in0, wdL, side0, author0, minute0, year0, week0, cell0, mside0, mminute0, myear0, mweek0, mship0, mtown0, ship0, town0, law0, mcell0, gF, ltI, leI, Int32.reduceToInt, Int64.reduceToInt]; omega), if_neg (by simp only [lies0, in0, wdL, side0, author0, minute0, year0, week0, cell0, mside0, mminute0, myear0, mweek0, mship0, mtown0, ship0, town0, law0, mcell0, gF, ltI, leI, Int32.reduceToInt, Int64.reduceToInt]; omega)]
      simp only [bS, bndE, gF, sA1, sL1, stA1, stL1, sF1, sA2, sL2, stA2, stL2, sF2, sA3, sL3, stA3, stL3, sF3, Nat.reduceEqDiff, Nat.reduceLT, reduceIte, rdM_1, wrM_1, rdM_2, wrM_2, rdM_3, wrM_3, rdM_4, wrM_4, rdM_5, wrM_5, rdM_6, wrM_6, rdM_7, wrM_7, rdM_8, wrM_8, rdM_9, wrM_9, rdM_10, wrM_10, rdM_11, wrM_11, rdM_12, wrM_12, rdM_13, wrM_13, rdM_14, wrM_14, rdM_15, wrM_15, rdM_16, wrM_16, rdM_17, wrM_17, rdM_18, wrM_18, rdM_19, wrM_19, rdM_20, wrM_20, rdM_21, wrM_21, rdM_22, wrM_22, rdM_23, wrM_23, rdM_24, wrM_24, rdM_25, wrM_25, rdM_26, wrM_26, rdM_27, wrM_27, rdM_28, wrM_28, rdM_29, wrM_29, rdM_30, wrM_30, rlM_31, wlM_31, rlM_32, wlM_32, rlM_33, wlM_33, rdM_34, wrM_34, rdM_35, wrM_35, rdM_36, wrM_36, rdM_37, wrM_37, rdM_38, wrM_38, rdM_39, wrM_39, rdM_40, wrM_40, rdM_41, wrM_41, rdM_42, wrM_42, rdM_43, wrM_43, rdM_44, wrM_44, rdM_45, wrM_45, rdM_46, wrM_46, rlM_47, wlM_47, rdM_48, wrM_48, rdM_49, wrM_49, rdM_50, wrM_50, rdM_51, wrM_51, rdM_52, wrM_52, rdM_53, wrM_53, rdM_54, wrM_54, rdM_55, wrM_55, rdM_56, wrM_56, rdM_57, wrM_57, rdM_58, wrM_58, rdM_59, wrM_59, rlM_60, wlM_60, rdM_61, wrM_61, rdM_62, wrM_62, h2, g0, nI_1]
  · refine Op.no (-1) ?_ ?_ h
    · unfold f_X10_ship f_X7_add
      simp only [lies0, in0, wdL, side0, author0, minute0, year0, week0, cell0, mside0, mminute0, myear0, mweek0, mship0, mtown0, ship0, town0, law0, mcell0, gF, ltI, leI, Int32.reduceToInt, Int64.reduceToInt, h1, e1]
      (repeat' split) <;> first | rfl | (exfalso; omega)
    · unfold f_X11_ship
      simp only [lies0, in0, wdL, side0, author0, minute0, year0, week0, cell0, mside0, mminute0, myear0, mweek0, mship0, mtown0, ship0, town0, law0, mcell0, gF, ltI, leI, Int32.reduceToInt, Int64.reduceToInt, h2, e1]
      simp only [eqI, e1, Int32.reduceToInt]
      (repeat' split) <;> first | rfl | (exfalso; omega)
