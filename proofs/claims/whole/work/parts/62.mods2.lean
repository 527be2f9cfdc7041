/-! two programs that agree -/
def AR {α β : Type} (R : α → β → Prop) (a : Option α) (b : Option β) : Prop := ∃ x y, a = some x ∧ b = some y ∧ R x y
theorem AR.ret {α β : Type} {R : α → β → Prop} {x : α} {y : β} (h : R x y) : AR R (some x) (some y) := ⟨x, y, rfl, rfl, h⟩
theorem AR.bind {α β α' β' : Type} {R : α → β → Prop} {S : α' → β' → Prop} {a : Option α} {b : Option β} {f : α → Option α'} {g : β → Option β'} (h : AR R a b) (k : ∀ x y, R x y → AR S (f x) (g y)) : AR S (a.bind f) (b.bind g) := by
  obtain ⟨x, y, rfl, rfl, hr⟩ := h
  exact k x y hr
theorem AR.bl {α α' β' : Type} {S : α' → β' → Prop} {a : Option α} {b : Option β'} {f : α → Option α'} {x : α} (h : a = some x) (k : AR S (f x) b) : AR S (a.bind f) b := by subst h; exact k
theorem AR.br {β α' β' : Type} {S : α' → β' → Prop} {a : Option α'} {b : Option β} {g : β → Option β'} {y : β} (h : b = some y) (k : AR S a (g y)) : AR S a (b.bind g) := by subst h; exact k
theorem AR.ite {α β : Type} {R : α → β → Prop} {c c' : Prop} {d : Decidable c} {d' : Decidable c'} {a a' : Option α} {b b' : Option β} (e : c ↔ c') (h1 : c → AR R a b) (h2 : ¬ c → AR R a' b') : AR R (@ite _ c d a a') (@ite _ c' d' b b') := by
  by_cases h : c
  · rw [if_pos h, if_pos (e.mp h)]; exact h1 h
  · rw [if_neg h, if_neg (fun z => h (e.mpr z))]; exact h2 h
theorem AR.eq {α : Type} {a b : Option α} (h : AR Eq a b) : ∃ r, a = some r ∧ b = some r := by
  obtain ⟨x, y, h1, h2, rfl⟩ := h
  exact ⟨x, h1, h2⟩
theorem AR.to {α β : Type} {R : α → β → Prop} {a a' : Option α} {b b' : Option β} (h : AR R a b) (e1 : a' = a) (e2 : b' = b) : AR R a' b' := by subst e1; subst e2; exact h
theorem AR.mono {α β : Type} {R S : α → β → Prop} {a : Option α} {b : Option β} (h : AR R a b) (k : ∀ x y, R x y → S x y) : AR S a b := by
  obtain ⟨x, y, h1, h2, hr⟩ := h
  exact ⟨x, y, h1, h2, k x y hr⟩
/-! small ops -/
theorem o_chart (x y : Int32) {σ τ : St} (h : M_pts σ τ) : Op (f_X10_chart x y σ) (f_X11_chart x y τ) M_pts ([104, 105], [], []) ([21, 22], [], []) σ τ := by
  obtain ⟨a1, a2, a3, a4, a5, a6⟩ := id h
  by_cases hg : -3 ≤ x.toInt ∧ x.toInt ≤ 3 ∧ -3 ≤ y.toInt ∧ y.toInt ≤ 3
  · refine ⟨1, sF (sF σ 104 x) 105 y, sF (sF τ 21 x) 22 y, ?_, ?_, ⟨a1, a2, a3, rfl, rfl, a6⟩, (Fr.rf.wF (by decide)).wF (by decide), (Fr.rf.wF (by decide)).wF (by decide)⟩
    · unfold f_X10_chart
      simp only [lies0, in0, wdL, side0, author0, minute0, year0, week0, cell0, mside0, mminute0, myear0, mweek0, mship0, mtown0, ship0, town0, law0, mcell0, gF, ltI, leI, Int32.reduceToInt, Int64.reduceToInt]
      rw [if_neg (by omega), if_neg (by omega)]
      rfl
    · unfold f_X11_chart
      simp only [lies0, in0, wdL, side0, author0, minute0, year0, week0, cell0, mside0, mminute0, myear0, mweek0, mship0, mtown0, ship0, town0, law0, mcell0, gF, ltI, leI, Int32.reduceToInt, Int64.reduceToInt]
      rw [if_neg (by omega), if_neg (by omega)]
      rfl
  · refine Op.no 0 ?_ ?_ h
    · unfold f_X10_chart
      simp only [lies0, in0, wdL, side0, author0, minute0, year0, week0, cell0, mside0, mminute0, myear0, mweek0, mship0, mtown0, ship0, town0, law0, mcell0, gF, ltI, leI, Int32.reduceToInt, Int64.reduceToInt]
      (repeat' split) <;> first | rfl | (exfalso; omega)
    · unfold f_X11_chart
      simp only [lies0, in0, wdL, side0, author0, minute0, year0, week0, cell0, mside0, mminute0, myear0, mweek0, mship0, mtown0, ship0, town0, law0, mcell0, gF, ltI, leI, Int32.reduceToInt, Int64.reduceToInt]
      (repeat' split) <;> first | rfl | (exfalso; omega)
theorem o_point (s x y : Int32) {σ τ : St} (h : M_pts σ τ) : Op (f_X10_point s x y σ) (f_X11_point s x y τ) M_pts ([], [15, 16, 17], []) ([], [15, 16, 17], []) σ τ := by
  obtain ⟨a1, a2, a3, a4, a5, a6⟩ := id h
  by_cases hs : 0 ≤ s.toInt ∧ s.toInt ≤ 1
  · obtain ⟨j, hj, rfl⟩ := nI_btw (n := 1) hs.1 hs.2
    have hj2 : j < 2 := by omega
    obtain ⟨m, hm, e⟩ := a6 j hj2
    have e' : τ.2.1 15 j = nI m := by rw [← a3]; exact e
    have ej := nI_toInt (show j < 2 ^ 31 by omega)
    have em := nI_toInt (show m < 2 ^ 31 by omega)
    have s1 : f_X10_isSide (nI j) ≠ 0 := by rw [Ne, side0]; exact not_not_intro hs
    have s2 : f_X11_isSide (nI j) ≠ 0 := by rw [Ne, mside0]; exact not_not_intro hs
    by_cases hg : m < 16 ∧ 0 ≤ x.toInt ∧ x.toInt ≤ 23 ∧ 0 ≤ y.toInt ∧ y.toInt ≤ 23
    · obtain ⟨g0, g⟩ := hg
      have c1 : f_X6_isCell x y ≠ 0 := by rw [Ne, cell0]; exact not_not_intro g
      have c2 : f_X11_isCell x y ≠ 0 := by rw [Ne, mcell0]; exact not_not_intro g
      have hb : 16 * j + m < 32 := by omega
      have i1 : nI j * 16 + nI m = nI (16 * j + m) := ixd 16 j m
      have i2 : 16 * nI j + nI m = nI (16 * j + m) := ixc 16 j m
      have l1 : nI m < 16 := nI_lt (b := 16) g0 (by decide)
      have l2 : ¬ nI m = 16 := fun z => by have := (nI_eq (b := 16) (by omega) (by decide)).mp z; omega
      refine ⟨nI m, sA (sA (sA σ 15 (16 * j + m) x) 16 (16 * j + m) y) 17 j (nI (m + 1)), sA (sA (sA τ 16 (16 * j + m) x) 17 (16 * j + m) y) 15 j (nI (m + 1)), ?_, ?_, ⟨congrArg (upd · (16 * j + m) x) a1, congrArg (upd · (16 * j + m) y) a2, congrArg (upd · j (nI (m + 1))) a3, a4, a5, fun k hk => ?_⟩, ((Fr.rf.wA (by decide)).wA (by decide)).wA (by decide), ((Fr.rf.wA (by decide)).wA (by decide)).wA (by decide)⟩
      · unfold f_X10_point f_X6_addPoint
        simp only [s1, c1, bS, bndE, gF, sA1, sL1, stA1, stL1, sF1, sA2, sL2, stA2, stL2, sF2, sA3, sL3, stA3, stL3, sF3, Nat.reduceEqDiff, Nat.reduceLT, reduceIte, rlC_11, wlC_11, rlC_12, wlC_12, rdC_13, wrC_13, rdC_14, wrC_14, rdC_15, wrC_15, rdC_16, wrC_16, rdC_17, wrC_17, rdC_18, wrC_18, rdC_19, wrC_19, rdC_20, wrC_20, rdC_21, wrC_21, rdC_22, wrC_22, rdC_23, wrC_23, rdC_24, wrC_24, rdC_25, wrC_25, rdC_26, wrC_26, rdC_27, wrC_27, rdC_28, wrC_28, rdC_29, wrC_29, rdC_30, wrC_30, rdC_31, wrC_31, rdC_32, wrC_32, rdC_33, wrC_33, rdC_34, wrC_34, rdC_35, wrC_35, rdC_36, wrC_36, rdC_38, wrC_38, rdC_39, wrC_39, rdC_40, wrC_40, rdC_41, wrC_41, rdC_42, wrC_42, rdC_43, wrC_43, rlC_44, wlC_44, rdC_45, wrC_45, rdC_46, wrC_46, rdC_47, wrC_47, rdC_48, wrC_48, rdC_49, wrC_49, rdC_50, wrC_50, rdC_51, wrC_51, rdC_52, wrC_52, rdC_53, wrC_53, rdC_54, wrC_54, rdC_55, wrC_55, rlC_56, wlC_56, rlC_57, wlC_57, rdC_58, wrC_58, rdC_59, wrC_59, rdC_60, wrC_60, rdC_61, wrC_61, rdC_62, wrC_62, rdC_63, wrC_63, rdC_64, wrC_64, rdC_65, wrC_65, rdC_66, wrC_66, rdC_67, wrC_67, rlC_68, wlC_68, rdC_69, wrC_69, rdC_70, wrC_70, hj2, e, l1, i1, hb, nI_1]
      · unfold f_X11_point
        simp only [s2, c2, bS, bndE, gF, sA1, sL1, stA1, stL1, sF1, sA2, sL2, stA2, stL2, sF2, sA3, sL3, stA3, stL3, sF3, Nat.reduceEqDiff, Nat.reduceLT, reduceIte, rdM_1, wrM_1, rdM_2, wrM_2, rdM_3, wrM_3, rdM_4, wrM_4, rdM_5, wrM_5, rdM_6, wrM_6, rdM_7, wrM_7, rdM_8, wrM_8, rdM_9, wrM_9, rdM_10, wrM_10, rdM_11, wrM_11, rdM_12, wrM_12, rdM_13, wrM_13, rdM_14, wrM_14, rdM_15, wrM_15, rdM_16, wrM_16, rdM_17, wrM_17, rdM_18, wrM_18, rdM_19, wrM_19, rdM_20, wrM_20, rdM_21, wrM_21, rdM_22, wrM_22, rdM_23, wrM_23, rdM_24, wrM_24, rdM_25, wrM_25, rdM_26, wrM_26, rdM_27, wrM_27, rdM_28, wrM_28, rdM_29, wrM_29, rdM_30, wrM_30, rlM_31, wlM_31, rlM_32, wlM_32, rlM_33, wlM_33, rdM_34, wrM_34, rdM_35, wrM_35, rdM_36, wrM_36, rdM_37, wrM_37, rdM_38, wrM_38, rdM_39, wrM_39, rdM_40, wrM_40, rdM_41, wrM_41, rdM_42, wrM_42, rdM_43, wrM_43, rdM_44, wrM_44, rdM_45, wrM_45, rdM_46, wrM_46, rlM_47, wlM_47, rdM_48, wrM_48, rdM_49, wrM_49, rdM_50, wrM_50, rdM_51, wrM_51, rdM_52, wrM_52, rdM_53, wrM_53, rdM_54, wrM_54, rdM_55, wrM_55, rdM_56, wrM_56, rdM_57, wrM_57, rdM_58, wrM_58, rdM_59, wrM_59, rlM_60, wlM_60, rdM_61, wrM_61, rdM_62, wrM_62, hj2, e', l2, i2, hb, nI_1, upd_at, nI_pred]
      · show ∃ m', m' ≤ 16 ∧ upd (σ.2.1 17) j (nI (m + 1)) k = nI m'
        by_cases hk2 : k = j
        · subst hk2; exact ⟨m + 1, by omega, upd_at _ _ _⟩
        · rw [upd_ne _ _ hk2]; exact a6 k hk
    · refine Op.no (-1) ?_ ?_ h
      · unfold f_X10_point f_X6_addPoint
        simp only [s1, bS, bndE, gF, sA1, sL1, stA1, stL1, sF1, sA2, sL2, stA2, stL2, sF2, sA3, sL3, stA3, stL3, sF3, Nat.reduceEqDiff, Nat.reduceLT, reduceIte, rlC_11, wlC_11, rlC_12, wlC_12, rdC_13, wrC_13, rdC_14, wrC_14, rdC_15, wrC_15, rdC_16, wrC_16, rdC_17, wrC_17, rdC_18, wrC_18, rdC_19, wrC_19, rdC_20, wrC_20, rdC_21, wrC_21, rdC_22, wrC_22, rdC_23, wrC_23, rdC_24, wrC_24, rdC_25, wrC_25, rdC_26, wrC_26, rdC_27, wrC_27, rdC_28, wrC_28, rdC_29, wrC_29, rdC_30, wrC_30, rdC_31, wrC_31, rdC_32, wrC_32, rdC_33, wrC_33, rdC_34, wrC_34, rdC_35, wrC_35, rdC_36, wrC_36, rdC_38, wrC_38, rdC_39, wrC_39, rdC_40, wrC_40, rdC_41, wrC_41, rdC_42, wrC_42, rdC_43, wrC_43, rlC_44, wlC_44, rdC_45, wrC_45, rdC_46, wrC_46, rdC_47, wrC_47, rdC_48, wrC_48, rdC_49, wrC_49, rdC_50, wrC_50, rdC_51, wrC_51, rdC_52, wrC_52, rdC_53, wrC_53, rdC_54, wrC_54, rdC_55, wrC_55, rlC_56, wlC_56, rlC_57, wlC_57, rdC_58, wrC_58, rdC_59, wrC_59, rdC_60, wrC_60, rdC_61, wrC_61, rdC_62, wrC_62, rdC_63, wrC_63, rdC_64, wrC_64, rdC_65, wrC_65, rdC_66, wrC_66, rdC_67, wrC_67, rlC_68, wlC_68, rdC_69, wrC_69, rdC_70, wrC_70, hj2, e]
        simp only [lies0, in0, wdL, side0, author0, minute0, year0, week0, cell0, mside0, mminute0, myear0, mweek0, mship0, mtown0, ship0, town0, law0, mcell0, gF, ltI, leI, Int32.reduceToInt, Int64.reduceToInt, em]
        (repeat' split) <;> first | rfl | (exfalso; omega)
      · unfold f_X11_point
        simp only [s2, bS, bndE, gF, sA1, sL1, stA1, stL1, sF1, sA2, sL2, stA2, stL2, sF2, sA3, sL3, stA3, stL3, sF3, Nat.reduceEqDiff, Nat.reduceLT, reduceIte, rdM_1, wrM_1, rdM_2, wrM_2, rdM_3, wrM_3, rdM_4, wrM_4, rdM_5, wrM_5, rdM_6, wrM_6, rdM_7, wrM_7, rdM_8, wrM_8, rdM_9, wrM_9, rdM_10, wrM_10, rdM_11, wrM_11, rdM_12, wrM_12, rdM_13, wrM_13, rdM_14, wrM_14, rdM_15, wrM_15, rdM_16, wrM_16, rdM_17, wrM_17, rdM_18, wrM_18, rdM_19, wrM_19, rdM_20, wrM_20, rdM_21, wrM_21, rdM_22, wrM_22, rdM_23, wrM_23, rdM_24, wrM_24, rdM_25, wrM_25, rdM_26, wrM_26, rdM_27, wrM_27, rdM_28, wrM_28, rdM_29, wrM_29, rdM_30, wrM_30, rlM_31, wlM_31, rlM_32, wlM_32, rlM_33, wlM_33, rdM_34, wrM_34, rdM_35, wrM_35, rdM_36, wrM_36, rdM_37, wrM_37, rdM_38, wrM_38, rdM_39, wrM_39, rdM_40, wrM_40, rdM_41, wrM_41, rdM_42, wrM_42, rdM_43, wrM_43, rdM_44, wrM_44, rdM_45, wrM_45, rdM_46, wrM_46, rlM_47, wlM_47, rdM_48, wrM_48, rdM_49, wrM_49, rdM_50, wrM_50, rdM_51, wrM_51, rdM_52, wrM_52, rdM_53, wrM_53, rdM_54, wrM_54, rdM_55, wrM_55, rdM_56, wrM_56, rdM_57, wrM_57, rdM_58, wrM_58, rdM_59, wrM_59, rlM_60, wlM_60, rdM_61, wrM_61, rdM_62, wrM_62, hj2, e']
        simp only [lies0, in0, wdL, side0, author0, minute0, year0, week0, cell0, mside0, mminute0, myear0, mweek0, mship0, mtown0, ship0, town0, law0, mcell0, gF, ltI, leI, Int32.reduceToInt, Int64.reduceToInt, eqI (nI m), em]
        (repeat' split) <;> first | rfl | (exfalso; omega)
  · refine Op.no (-1) ?_ ?_ h
    · unfold f_X10_point
      rw [if_pos (by rw [side0]; exact hs)]
    · unfold f_X11_point
      rw [if_pos (by rw [mside0]; exact hs)]
def M_tap (σ τ : St) : Prop := ∃ n : Nat, n ≤ 400 ∧ σ.1 502 = nI n ∧ τ.1 24 = nI n ∧ ∀ i, ∃ c : Nat, c < 256 ∧ σ.2.1 45 i = nI c ∧ τ.2.1 18 i = (nI c).toInt8.toInt32
theorem o_end (x : Int32) {σ τ : St} (h : M_tap σ τ) : Op (f_X10_end x σ) (f_X11_end x τ) M_tap ([502], [], []) ([24], [], []) σ τ := by
  obtain ⟨n, hn, h1, h2, a⟩ := id h
  have e1 := nI_toInt (show n < 2 ^ 31 by omega)
  by_cases hg : 0 ≤ x.toInt ∧ x.toInt ≤ n
  · obtain ⟨j, hj, rfl⟩ := nI_btw hg.1 hg.2
    refine ⟨nI j, sF σ 502 (nI j), sF τ 24 (nI j), ?_, ?_, ⟨j, by omega, rfl, rfl, a⟩, Fr.rf.wF (by decide), Fr.rf.wF (by decide)⟩
    · unfold f_X10_end
      simp only [lies0, in0, wdL, side0, author0, minute0, year0, week0, cell0, mside0, mminute0, myear0, mweek0, mship0, mtown0, ship0, town0, law0, mcell0, gF, ltI, leI, Int32.reduceToInt, Int64.reduceToInt, h1, e1]
      rw [if_neg (by omega)]
      rfl
    · unfold f_X11_end
      simp only [lies0, in0, wdL, side0, author0, minute0, year0, week0, cell0, mside0, mminute0, myear0, mweek0, mship0, mtown0, ship0, town0, law0, mcell0, gF, ltI, leI, Int32.reduceToInt, Int64.reduceToInt, h2, e1]
      rw [if_neg (by omega), if_pos (by omega)]
      rfl
  · refine Op.no (-1) ?_ ?_ h
    · unfold f_X10_end
      simp only [lies0, in0, wdL, side0, author0, minute0, year0, week0, cell0, mside0, mminute0, myear0, mweek0, mship0, mtown0, ship0, town0, law0, mcell0, gF, ltI, leI, Int32.reduceToInt, Int64.reduceToInt, h1, e1]
      (repeat' split) <;> first | rfl | (exfalso; omega)
    · unfold f_X11_end
      simp only [lies0, in0, wdL, side0, author0, minute0, year0, week0, cell0, mside0, mminute0, myear0, mweek0, mship0, mtown0, ship0, town0, law0, mcell0, gF, ltI, leI, Int32.reduceToInt, Int64.reduceToInt, h2, e1]
      (repeat' split) <;> first | rfl | (exfalso; omega)
def M_act (σ τ : St) : Prop := ∃ n : Nat, n ≤ 150 ∧ σ.1 9 = nI n ∧ τ.1 53 = nI n ∧ ∀ i, i < n → (σ.2.1 13 (5 * i) = τ.2.1 34 i ∧ σ.2.1 13 (5 * i + 1) = τ.2.1 35 i ∧ σ.2.1 13 (5 * i + 2) = τ.2.1 36 i ∧ σ.2.1 13 (5 * i + 3) = τ.2.1 37 i ∧ σ.2.1 13 (5 * i + 4) = τ.2.1 38 i) ∧ (0 ≤ (τ.2.1 34 i).toInt ∧ (τ.2.1 34 i).toInt < (σ.1 204).toInt) ∧ (0 ≤ (τ.2.1 35 i).toInt ∧ (τ.2.1 35 i).toInt ≤ 4) ∧ (0 ≤ (τ.2.1 36 i).toInt ∧ (τ.2.1 36 i).toInt ≤ 23) ∧ (0 ≤ (τ.2.1 37 i).toInt ∧ (τ.2.1 37 i).toInt ≤ 23) ∧ (0 ≤ (τ.2.1 38 i).toInt ∧ (τ.2.1 38 i).toInt ≤ 8999)
theorem o_act (s w x y z : Int32) {σ τ : St} (h : M_act σ τ) (hs : M_shp σ τ) (hn : M_now σ τ) : Op (f_X10_act s w x y z σ) (f_X11_act s w x y z τ) M_act ([9], [13], []) ([53], [34, 35, 36, 37, 38], []) σ τ := by
  obtain ⟨n, hn1, h1, h2, a⟩ := id h
  obtain ⟨ns, hs1, hs2, hs3, -⟩ := id hs
  obtain ⟨nw, hw1, hw2, hw3⟩ := id hn
  have e1 := nI_toInt (show n < 2 ^ 31 by omega)
  have e2 := nI_toInt (show ns < 2 ^ 31 by omega)
  have e3 := nI_toInt (show nw < 2 ^ 31 by omega)
  by_cases hg : n < 150 ∧ (0 ≤ s.toInt ∧ s.toInt < ns) ∧ (0 ≤ w.toInt ∧ w.toInt ≤ 4) ∧ (0 ≤ x.toInt ∧ x.toInt ≤ 23) ∧ (0 ≤ y.toInt ∧ y.toInt ≤ 23) ∧ 0 ≤ z.toInt ∧ z.toInt ≤ nw
  · obtain ⟨g0, g1, g2, g3, g4, g5⟩ := hg
    have m0 : nI n * 5 = nI (5 * n) := by rw [show (5 : Int32) = nI 5 from rfl, pk_mul, Nat.mul_comm]
    have m1 : nI (5 * n) + 1 = nI (5 * n + 1) := nI_add _ 1
    have m2 : nI (5 * n) + 2 = nI (5 * n + 2) := nI_add _ 2
    have m3 : nI (5 * n) + 3 = nI (5 * n + 3) := nI_add _ 3
    have m4 : nI (5 * n) + 4 = nI (5 * n + 4) := nI_add _ 4
    have b0 : 5 * n < 750 := by omega
    have b1 : 5 * n + 1 < 750 := by omega
    have b2 : 5 * n + 2 < 750 := by omega
    have b3 : 5 * n + 3 < 750 := by omega
    have b4 : 5 * n + 4 < 750 := by omega
    refine ⟨nI n, sF (sA (sA (sA (sA (sA σ 13 (5 * n) s) 13 (5 * n + 1) w) 13 (5 * n + 2) x) 13 (5 * n + 3) y) 13 (5 * n + 4) z) 9 (nI (n + 1)), sF (sA (sA (sA (sA (sA τ 34 n s) 35 n w) 36 n x) 37 n y) 38 n z) 53 (nI (n + 1)), ?_, ?_, ⟨n + 1, g0, rfl, rfl, fun i hi => ?_⟩, (((((Fr.rf.wA (by decide)).wA (by decide)).wA (by decide)).wA (by decide)).wA (by decide)).wF (by decide), (((((Fr.rf.wA (by decide)).wA (by decide)).wA (by decide)).wA (by decide)).wA (by decide)).wF (by decide)⟩
    · unfold f_X10_act
      simp only [lies0, in0, wdL, side0, author0, minute0, year0, week0, cell0, mside0, mminute0, myear0, mweek0, mship0, mtown0, ship0, town0, law0, mcell0, gF, ltI, leI, Int32.reduceToInt, Int64.reduceToInt, h1, hs2, hw2, e1, e2, e3]
      rw [if_neg (by omega), if_neg (by omega), if_neg (by omega), if_neg (by omega), if_neg (by omega)]
      simp only [bS, bndE, gF, sA1, sL1, stA1, stL1, sF1, sA2, sL2, stA2, stL2, sF2, sA3, sL3, stA3, stL3, sF3, Nat.reduceEqDiff, Nat.reduceLT, reduceIte, rlC_11, wlC_11, rlC_12, wlC_12, rdC_13, wrC_13, rdC_14, wrC_14, rdC_15, wrC_15, rdC_16, wrC_16, rdC_17, wrC_17, rdC_18, wrC_18, rdC_19, wrC_19, rdC_20, wrC_20, rdC_21, wrC_21, rdC_22, wrC_22, rdC_23, wrC_23, rdC_24, wrC_24, rdC_25, wrC_25, rdC_26, wrC_26, rdC_27, wrC_27, rdC_28, wrC_28, rdC_29, wrC_29, rdC_30, wrC_30, rdC_31, wrC_31, rdC_32, wrC_32, rdC_33, wrC_33, rdC_34, wrC_34, rdC_35, wrC_35, rdC_36, wrC_36, rdC_38, wrC_38, rdC_39, wrC_39, rdC_40, wrC_40, rdC_41, wrC_41, rdC_42, wrC_42, rdC_43, wrC_43, rlC_44, wlC_44, rdC_45, wrC_45, rdC_46, wrC_46, rdC_47, wrC_47, rdC_48, wrC_48, rdC_49, wrC_49, rdC_50, wrC_50, rdC_51, wrC_51, rdC_52, wrC_52, rdC_53, wrC_53, rdC_54, wrC_54, rdC_55, wrC_55, rlC_56, wlC_56, rlC_57, wlC_57, rdC_58, wrC_58, rdC_59, wrC_59, rdC_60, wrC_60, rdC_61, wrC_61, rdC_62, wrC_62, rdC_63, wrC_63, rdC_64, wrC_64, rdC_65, wrC_65, rdC_66, wrC_66, rdC_67, wrC_67, rlC_68, wlC_68, rdC_69, wrC_69, rdC_70, wrC_70, h1, m0, m1, m2, m3, m4, b0, b1, b2, b3, b4, nI_1, nI_pred]
    · unfold f_X11_act
      simp only [lies0, in0, wdL, side0, author0, minute0, year0, week0, cell0, mside0, mminute0, myear0, mweek0, mship0, mtown0, ship0, town0, law0, mcell0, gF, ltI, leI, Int32.reduceToInt, Int64.reduceToInt, h2, hs3, hw3, e1, e2, e3]
      rw [if_neg (by simp only [eqI, e1, Int32.reduceToInt]; omega), if_neg (by omega), if_neg (by omega), if_neg (by omega), if_neg (by omega)]
      simp only [bS, bndE, gF, sA1, sL1, stA1, stL1, sF1, sA2, sL2, stA2, stL2, sF2, sA3, sL3, stA3, stL3, sF3, Nat.reduceEqDiff, Nat.reduceLT, reduceIte, rdM_1, wrM_1, rdM_2, wrM_2, rdM_3, wrM_3, rdM_4, wrM_4, rdM_5, wrM_5, rdM_6, wrM_6, rdM_7, wrM_7, rdM_8, wrM_8, rdM_9, wrM_9, rdM_10, wrM_10, rdM_11, wrM_11, rdM_12, wrM_12, rdM_13, wrM_13, rdM_14, wrM_14, rdM_15, wrM_15, rdM_16, wrM_16, rdM_17, wrM_17, rdM_18, wrM_18, rdM_19, wrM_19, rdM_20, wrM_20, rdM_21, wrM_21, rdM_22, wrM_22, rdM_23, wrM_23, rdM_24, wrM_24, rdM_25, wrM_25, rdM_26, wrM_26, rdM_27, wrM_27, rdM_28, wrM_28, rdM_29, wrM_29, rdM_30, wrM_30, rlM_31, wlM_31, rlM_32, wlM_32, rlM_33, wlM_33, rdM_34, wrM_34, rdM_35, wrM_35, rdM_36, wrM_36, rdM_37, wrM_37, rdM_38, wrM_38, rdM_39, wrM_39, rdM_40, wrM_40, rdM_41, wrM_41, rdM_42, wrM_42, rdM_43, wrM_43, rdM_44, wrM_44, rdM_45, wrM_45, rdM_46, wrM_46, rlM_47, wlM_47, rdM_48, wrM_48, rdM_49, wrM_49, rdM_50, wrM_50, rdM_51, wrM_51, rdM_52, wrM_52, rdM_53, wrM_53, rdM_54, wrM_54, rdM_55, wrM_55, rdM_56, wrM_56, rdM_57, wrM_57, rdM_58, wrM_58, rdM_59, wrM_59, rlM_60, wlM_60, rdM_61, wrM_61, rdM_62, wrM_62, h2, g0, nI_1, nI_pred]
    · have hq : (sF (sA (sA (sA (sA (sA σ 13 (5 * n) s) 13 (5 * n + 1) w) 13 (5 * n + 2) x) 13 (5 * n + 3) y) 13 (5 * n + 4) z) 9 (nI (n + 1))).1 204 = σ.1 204 := rfl
      rw [hq, hs2, e2]
      simp only [bS, bndE, gF, sA1, sL1, stA1, stL1, sF1, sA2, sL2, stA2, stL2, sF2, sA3, sL3, stA3, stL3, sF3, Nat.reduceEqDiff, Nat.reduceLT, reduceIte]
      by_cases hin : i = n
      · subst hin
        have d01 : 5 * i ≠ 5 * i + 1 := by omega
        have d02 : 5 * i ≠ 5 * i + 2 := by omega
        have d03 : 5 * i ≠ 5 * i + 3 := by omega
        have d04 : 5 * i ≠ 5 * i + 4 := by omega
        have d12 : 5 * i + 1 ≠ 5 * i + 2 := by omega
        have d13 : 5 * i + 1 ≠ 5 * i + 3 := by omega
        have d14 : 5 * i + 1 ≠ 5 * i + 4 := by omega
        have d23 : 5 * i + 2 ≠ 5 * i + 3 := by omega
        have d24 : 5 * i + 2 ≠ 5 * i + 4 := by omega
        have d34 : 5 * i + 3 ≠ 5 * i + 4 := by omega
        simp only [upd_ne _ _ d01, upd_ne _ _ d02, upd_ne _ _ d03, upd_ne _ _ d04, upd_ne _ _ d12, upd_ne _ _ d13, upd_ne _ _ d14, upd_ne _ _ d23, upd_ne _ _ d24, upd_ne _ _ d34, upd_at]
        exact ⟨by simp, g1, g2, g3, g4, g5.1, by omega⟩
      · have hlt : i < n := by omega
        have u : ∀ (f : Nat → Int32) (p q : Nat) (v : Int32), p < 5 → q < 5 → upd f (5 * n + p) v (5 * i + q) = f (5 * i + q) := fun f p q v hp hq => upd_ne _ _ (by omega)
        have u0 : ∀ (f : Nat → Int32) (q : Nat) (v : Int32), q < 5 → upd f (5 * n) v (5 * i + q) = f (5 * i + q) := fun f q v hq => upd_ne _ _ (by omega)
        have u1 : ∀ (f : Nat → Int32) (p : Nat) (v : Int32), p < 5 → upd f (5 * n + p) v (5 * i) = f (5 * i) := fun f p v hp => upd_ne _ _ (by omega)
        have u2 : ∀ (f : Nat → Int32) (v : Int32), upd f (5 * n) v (5 * i) = f (5 * i) := fun f v => upd_ne _ _ (by omega)
        have u3 : ∀ (f : Nat → Int32) (v : Int32), upd f n v i = f i := fun f v => upd_ne _ _ hin
        have p1 : 1 < 5 := by decide
        have p2 : 2 < 5 := by decide
        have p3 : 3 < 5 := by decide
        have p4 : 4 < 5 := by decide
        simp only [u _ _ _ _ p1 p1, u _ _ _ _ p1 p2, u _ _ _ _ p1 p3, u _ _ _ _ p1 p4, u _ _ _ _ p2 p1, u _ _ _ _ p2 p2, u _ _ _ _ p2 p3, u _ _ _ _ p2 p4, u _ _ _ _ p3 p1, u _ _ _ _ p3 p2, u _ _ _ _ p3 p3, u _ _ _ _ p3 p4, u _ _ _ _ p4 p1, u _ _ _ _ p4 p2, u _ _ _ _ p4 p3, u _ _ _ _ p4 p4, u0 _ _ _ p1, u0 _ _ _ p2, u0 _ _ _ p3, u0 _ _ _ p4, u1 _ _ _ p1, u1 _ _ _ p2, u1 _ _ _ p3, u1 _ _ _ p4, u2, u3]
        have := a i hlt
        rw [hs2, e2] at this
        exact this
  · refine Op.no (-1) ?_ ?_ h
    · unfold f_X10_act
      simp only [lies0, in0, wdL, side0, author0, minute0, year0, week0, cell0, mside0, mminute0, myear0, mweek0, mship0, mtown0, ship0, town0, law0, mcell0, gF, ltI, leI, Int32.reduceToInt, Int64.reduceToInt, h1, hs2, hw2, e1, e2, e3]
      (repeat' split) <;> first | rfl | (exfalso; omega)
    · unfold f_X11_act
      simp only [lies0, in0, wdL, side0, author0, minute0, year0, week0, cell0, mside0, mminute0, myear0, mweek0, mship0, mtown0, ship0, town0, law0, mcell0, gF, ltI, leI, Int32.reduceToInt, Int64.reduceToInt, h2, hs3, hw3, e1, e2, e3]
      simp only [eqI (nI n), e1, Int32.reduceToInt]
      (repeat' split) <;> first | rfl | (exfalso; omega)
