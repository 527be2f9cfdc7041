/-! the agreement of both states; every operation keeps it -/
def M_con (_ τ : St) : Prop := τ.2.2 31 = σ0M.2.2 31 ∧ τ.2.2 32 = σ0M.2.2 32
set_option maxHeartbeats 200000 in
theorem M_con.fr {σ τ σ' τ' : St} {Ks As Ls Ks' As' Ls' : List Nat} (h : M_con σ τ) (_ : Fr Ks As Ls σ σ') (g : Fr Ks' As' Ls' τ τ') (d : 31 ∉ Ls' ∧ 32 ∉ Ls') : M_con σ' τ' := ⟨(g.2.2 31 d.1).trans h.1, (g.2.2 32 d.2).trans h.2⟩
def Inv (σ τ : St) : Prop := M_now σ τ ∧ M_dep σ τ ∧ M_pts σ τ ∧ M_shp σ τ ∧ M_tap σ τ ∧ M_act σ τ ∧ M_stk σ τ ∧ M_age σ τ ∧ M_twn σ τ ∧ M_not σ τ ∧ M_box σ τ ∧ M_esc σ τ ∧ M_rep σ τ ∧ M_chn σ τ ∧ M_hok σ τ ∧ M_law σ τ ∧ M_con σ τ
set_option maxHeartbeats 200000 in
theorem o_ship2 (x y z w : Int32) {σ τ : St} (h : M_shp σ τ) : Op (f_X10_ship x y z w σ) (f_X11_ship x y z w τ) (fun σ' τ' => M_shp σ' τ' ∧ (σ.1 204).toInt ≤ (σ'.1 204).toInt) ([204], [18, 19, 20, 21], []) ([2], [2, 3, 4, 5], []) σ τ := by
  obtain ⟨n, hn, h1, h2, a1, a2, a3, a4⟩ := id h
  have e1 := nI_toInt (show n < 2 ^ 31 by omega)
  by_cases hg : n < 40 ∧ 0 ≤ x.toInt ∧ x.toInt ≤ 1 ∧ 0 ≤ y.toInt ∧ y.toInt ≤ 2 ∧ 1 ≤ z.toInt ∧ z.toInt ≤ 3 ∧ 0 ≤ w.toInt ∧ w.toInt ≤ 199
  · obtain ⟨g0, g1, g2, g3, g4, g5, g6, g7, g8⟩ := hg
    refine ⟨nI (n + 1) - 1, sF (sA (sA (sA (sA σ 18 n x) 19 n y) 20 n z) 21 n w) 204 (nI (n + 1)), sF (sA (sA (sA (sA τ 2 n x) 3 n y) 4 n z) 5 n w) 2 (nI (n + 1)), ?_, ?_, ⟨⟨n + 1, g0, rfl, rfl, congrArg (upd · n x) a1, congrArg (upd · n y) a2, congrArg (upd · n z) a3, congrArg (upd · n w) a4⟩, by rw [h1, e1]; show _ ≤ (nI (n + 1)).toInt; rw [nI_toInt (show n + 1 < 2 ^ 31 by omega)]; omega⟩, ((((Fr.rf.wA (by decide)).wA (by decide)).wA (by decide)).wA (by decide)).wF (by decide), ((((Fr.rf.wA (by decide)).wA (by decide)).wA (by decide)).wA (by decide)).wF (by decide)⟩
    · unfold f_X10_ship f_X7_add
      rw [if_neg (by simp only [lies0, in0, wdL, side0, author0, minute0, year0, week0, cell0, mside0, mminute0, myear0, mweek0, mship0, mtown0, ship0, town0, law0, mcell0, gF, ltI, leI, Int32.reduceToInt, Int64.reduceToInt]; omega), if_neg (by simp only [lies0, in0, wdL, side0, author0, minute0, year0, week0, cell0, mside0, mminute0, myear0, mweek0, mship0, mtown0, ship0, town0, law0, mcell0, gF, ltI, leI, Int32.reduceToInt, Int64.reduceToInt]; omega), if_neg (by simp only [lies0, in0, wdL, side0, author0, minute0, year0, week0, cell0, mside0, mminute0, myear0, mweek0, mship0, mtown0, ship0, town0, law0, mcell0, gF, ltI, leI, Int32.reduceToInt, Int64.reduceToInt]; omega), if_neg (by simp only [lies0, in0, wdL, side0, author0, minute0, year0, week0, cell0, mside0, mminute0, myear0, mweek0, mship0, mtown0, ship0, town0, law0, mcell0, gF, ltI, leI, Int32.reduceToInt, Int64.reduceToInt]; omega), if_pos (by simp only [lies0, in0, wdL, side0, author0, minute0, year0, week0, cell0, mside0, mminute0, myear0, mweek0, mship0, mtown0, ship0, town0, law0, mcell0, gF, ltI, leI, Int32.reduceToInt, Int64.reduceToInt, h1, e1]; omega)]
      simp only [bS, bndE, gF, sA1, sL1, stA1, stL1, sF1, sA2, sL2, stA2, stL2, sF2, sA3, sL3, stA3, stL3, sF3, Nat.reduceEqDiff, Nat.reduceLT, reduceIte, rlC_11, wlC_11, rlC_12, wlC_12, rdC_13, wrC_13, rdC_14, wrC_14, rdC_15, wrC_15, rdC_16, wrC_16, rdC_17, wrC_17, rdC_18, wrC_18, rdC_19, wrC_19, rdC_20, wrC_20, rdC_21, wrC_21, rdC_22, wrC_22, rdC_23, wrC_23, rdC_24, wrC_24, rdC_25, wrC_25, rdC_26, wrC_26, rdC_27, wrC_27, rdC_28, wrC_28, rdC_29, wrC_29, rdC_30, wrC_30, rdC_31, wrC_31, rdC_32, wrC_32, rdC_33, wrC_33, rdC_34, wrC_34, rdC_35, wrC_35, rdC_36, wrC_36, rdC_38, wrC_38, rdC_39, wrC_39, rdC_40, wrC_40, rdC_41, wrC_41, rdC_42, wrC_42, rdC_43, wrC_43, rlC_44, wlC_44, rdC_45, wrC_45, rdC_46, wrC_46, rdC_47, wrC_47, rdC_48, wrC_48, rdC_49, wrC_49, rdC_50, wrC_50, rdC_51, wrC_51, rdC_52, wrC_52, rdC_53, wrC_53, rdC_54, wrC_54, rdC_55, wrC_55, rlC_56, wlC_56, rlC_57, wlC_57, rdC_58, wrC_58, rdC_59, wrC_59, rdC_60, wrC_60, rdC_61, wrC_61, rdC_62, wrC_62, rdC_63, wrC_63, rdC_64, wrC_64, rdC_65, wrC_65, rdC_66, wrC_66, rdC_67, wrC_67, rlC_68, wlC_68, rdC_69, wrC_69, rdC_70, wrC_70, h1, g0, nI_1]
    · unfold f_X11_ship
      rw [if_neg (by simp only [lies0, in0, wdL, side0, author0, minute0, year0, week0, cell0, mside0, mminute0, myear0, mweek0, mship0, mtown0, ship0, town0, law0, mcell0, gF, ltI, leI, Int32.reduceToInt, Int64.reduceToInt, eqI, h2, e1]; omega), if_neg (by simp only [lies0, in0, wdL, side0, author0, minute0, year0, week0, cell0, mside0, mminute0, myear0, mweek0, mship0, mtown0, ship0, town0, law0, mcell0, gF, ltI, leI, Int32.reduceToInt, Int64.reduceToInt]; omega), if_neg (by simp only [lies0, in0, wdL, side0, author0, minute0, year0, week0, cell0, mside0, mminute0, myear0, mweek0, mship0, mtown0, ship0, town0, law0, mcell0, gF, ltI, leI, Int32.reduceToInt, Int64.reduceToInt]; omega), if_neg (by simp only [lies0, in0, wdL, side0, author0, minute0, year0, week0, cell0, mside0, mminute0, myear0, mweek0, mship0, mtown0, ship0, town0, law0, mcell0, gF, ltI, leI, Int32.reduceToInt, Int64.reduceToInt]; omega), if_neg (by simp only [lies0, in0, wdL, side0, author0, minute0, year0, week0, cell0, mside0, mminute0, myear0, mweek0, mship0, mtown0, ship0, town0, law0, mcell0, gF, ltI, leI, Int32.reduceToInt, Int64.reduceToInt]; omega)]
      simp only [bS, bndE, gF, sA1, sL1, stA1, stL1, sF1, sA2, sL2, stA2, stL2, sF2, sA3, sL3, stA3, stL3, sF3, Nat.reduceEqDiff, Nat.reduceLT, reduceIte, rdM_1, wrM_1, rdM_2, wrM_2, rdM_3, wrM_3, rdM_4, wrM_4, rdM_5, wrM_5, rdM_6, wrM_6, rdM_7, wrM_7, rdM_8, wrM_8, rdM_9, wrM_9, rdM_10, wrM_10, rdM_11, wrM_11, rdM_12, wrM_12, rdM_13, wrM_13, rdM_14, wrM_14, rdM_15, wrM_15, rdM_16, wrM_16, rdM_17, wrM_17, rdM_18, wrM_18, rdM_19, wrM_19, rdM_20, wrM_20, rdM_21, wrM_21, rdM_22, wrM_22, rdM_23, wrM_23, rdM_24, wrM_24, rdM_25, wrM_25, rdM_26, wrM_26, rdM_27, wrM_27, rdM_28, wrM_28, rdM_29, wrM_29, rdM_30, wrM_30, rlM_31, wlM_31, rlM_32, wlM_32, rlM_33, wlM_33, rdM_34, wrM_34, rdM_35, wrM_35, rdM_36, wrM_36, rdM_37, wrM_37, rdM_38, wrM_38, rdM_39, wrM_39, rdM_40, wrM_40, rdM_41, wrM_41, rdM_42, wrM_42, rdM_43, wrM_43, rdM_44, wrM_44, rdM_45, wrM_45, rdM_46, wrM_46, rlM_47, wlM_47, rdM_48, wrM_48, rdM_49, wrM_49, rdM_50, wrM_50, rdM_51, wrM_51, rdM_52, wrM_52, rdM_53, wrM_53, rdM_54, wrM_54, rdM_55, wrM_55, rdM_56, wrM_56, rdM_57, wrM_57, rdM_58, wrM_58, rdM_59, wrM_59, rlM_60, wlM_60, rdM_61, wrM_61, rdM_62, wrM_62, h2, g0, nI_1]
  · refine Op.no (-1) ?_ ?_ ⟨h, Int.le_refl _⟩
    · unfold f_X10_ship f_X7_add
      simp only [lies0, in0, wdL, side0, author0, minute0, year0, week0, cell0, mside0, mminute0, myear0, mweek0, mship0, mtown0, ship0, town0, law0, mcell0, gF, ltI, leI, Int32.reduceToInt, Int64.reduceToInt, h1, e1]
      (repeat' split) <;> first | rfl | (exfalso; omega)
    · unfold f_X11_ship
      simp only [lies0, in0, wdL, side0, author0, minute0, year0, week0, cell0, mside0, mminute0, myear0, mweek0, mship0, mtown0, ship0, town0, law0, mcell0, gF, ltI, leI, Int32.reduceToInt, Int64.reduceToInt, h2, e1]
      simp only [eqI, e1, Int32.reduceToInt]
      (repeat' split) <;> first | rfl | (exfalso; omega)
set_option maxHeartbeats 200000 in
theorem M_act.mono {σ τ σ' τ' : St} (h : M_act σ τ) (f : Fr [204] [18, 19, 20, 21] [] σ σ') (g : Fr [2] [2, 3, 4, 5] [] τ τ') (l : (σ.1 204).toInt ≤ (σ'.1 204).toInt) : M_act σ' τ' := by
  obtain ⟨n, hn, a, b, c⟩ := h
  refine ⟨n, hn, (f.1 9 (by decide)).trans a, (g.1 53 (by decide)).trans b, fun i hi => ?_⟩
  rw [f.2.1 13 (by decide), g.2.1 34 (by decide), g.2.1 35 (by decide), g.2.1 36 (by decide), g.2.1 37 (by decide), g.2.1 38 (by decide)]
  obtain ⟨d, e, k⟩ := c i hi
  exact ⟨d, ⟨e.1, by have := e.2; omega⟩, k⟩
set_option maxHeartbeats 200000 in
theorem M_rep.mono {σ τ σ' τ' : St} (h : M_rep σ τ) (f : Fr [204] [18, 19, 20, 21] [] σ σ') (g : Fr [2] [2, 3, 4, 5] [] τ τ') (l : (σ.1 204).toInt ≤ (σ'.1 204).toInt) : M_rep σ' τ' := by
  obtain ⟨n, hn, a, b, c, d, e⟩ := h
  refine ⟨n, hn, (f.1 307 (by decide)).trans a, (g.1 7 (by decide)).trans b, ?_, ?_, fun i hi => ?_⟩
  · rw [f.2.1 22 (by decide), f.2.1 23 (by decide), f.2.1 24 (by decide), f.2.1 25 (by decide), f.2.1 26 (by decide), f.2.1 27 (by decide), g.2.1 6 (by decide), g.2.1 7 (by decide), g.2.1 8 (by decide), g.2.1 9 (by decide), g.2.1 10 (by decide), g.2.1 11 (by decide)]; exact c
  · rw [f.2.1 24 (by decide), f.2.1 28 (by decide)]; exact d
  · rw [f.2.1 22 (by decide), f.2.1 23 (by decide), f.2.1 25 (by decide), f.2.1 26 (by decide)]
    obtain ⟨e1, e2, e3⟩ := e i hi
    exact ⟨⟨e1.1, by have := e1.2; omega⟩, ⟨e2.1, by have := e2.2; omega⟩, e3⟩
set_option maxHeartbeats 200000 in
theorem ite_some {c : Prop} [Decidable c] {a b : Option Int32} (ha : ∃ r, a = some r) (hb : ∃ r, b = some r) : ∃ r, (if c then a else b) = some r := by
  by_cases h : c
  · rw [if_pos h]; exact ha
  · rw [if_neg h]; exact hb
set_option maxHeartbeats 200000 in
theorem sim_0 (a1 : Int32) : SimI Inv (cC_0 a1) (cM_0 a1) := by
  intro σ τ hI
  obtain ⟨h_now, h_dep, h_pts, h_shp, h_tap, h_act, h_stk, h_age, h_twn, h_not, h_box, h_esc, h_rep, h_chn, h_hok, h_law, h_con⟩ := id hI
  obtain ⟨r, σ', τ', r1, r2, P, f, g⟩ := o_clock a1 h_now
  exact ⟨r, σ', τ', r1, r2, P, h_dep.fr f g (by decide), h_pts.fr f g (by decide), h_shp.fr f g (by decide), h_tap.fr f g (by decide), h_act.fr f g (by decide), h_stk.fr f g (by decide), h_age.fr f g (by decide), h_twn.fr f g (by decide), h_not.fr f g (by decide), h_box.fr f g (by decide), h_esc.fr f g (by decide), h_rep.fr f g (by decide), h_chn.fr f g (by decide), h_hok.fr f g (by decide), h_law.fr f g (by decide), h_con.fr f g (by decide)⟩
set_option maxHeartbeats 200000 in
theorem sim_1 (a1 a2 a3 : Int32) : SimI Inv (cC_1 a1 a2 a3) (cM_1 a1 a2 a3) := by
  intro σ τ hI
  obtain ⟨h_now, h_dep, h_pts, h_shp, h_tap, h_act, h_stk, h_age, h_twn, h_not, h_box, h_esc, h_rep, h_chn, h_hok, h_law, h_con⟩ := id hI
  obtain ⟨r, σ', τ', r1, r2, P, f, g⟩ := o_depth a1 a2 a3 h_dep
  exact ⟨r, σ', τ', r1, r2, h_now.fr f g (by decide), P, h_pts.fr f g (by decide), h_shp.fr f g (by decide), h_tap.fr f g (by decide), h_act.fr f g (by decide), h_stk.fr f g (by decide), h_age.fr f g (by decide), h_twn.fr f g (by decide), h_not.fr f g (by decide), h_box.fr f g (by decide), h_esc.fr f g (by decide), h_rep.fr f g (by decide), h_chn.fr f g (by decide), h_hok.fr f g (by decide), h_law.fr f g (by decide), h_con.fr f g (by decide)⟩
set_option maxHeartbeats 200000 in
theorem sim_2 (a1 a2 a3 a4 : Int32) : SimI Inv (cC_2 a1 a2 a3 a4) (cM_2 a1 a2 a3 a4) := by
  intro σ τ hI
  obtain ⟨h_now, h_dep, h_pts, h_shp, h_tap, h_act, h_stk, h_age, h_twn, h_not, h_box, h_esc, h_rep, h_chn, h_hok, h_law, h_con⟩ := id hI
  obtain ⟨r, σ', τ', r1, r2, P, f, g⟩ := o_ship2 a1 a2 a3 a4 h_shp
  exact ⟨r, σ', τ', r1, r2, h_now.fr f g (by decide), h_dep.fr f g (by decide), h_pts.fr f g (by decide), P.1, h_tap.fr f g (by decide), h_act.mono f g P.2, h_stk.fr f g (by decide), h_age.fr f g (by decide), h_twn.fr f g (by decide), h_not.fr f g (by decide), h_box.fr f g (by decide), h_esc.fr f g (by decide), h_rep.mono f g P.2, h_chn.fr f g (by decide), h_hok.fr f g (by decide), h_law.fr f g (by decide), h_con.fr f g (by decide)⟩
set_option maxHeartbeats 200000 in
theorem sim_3 (a1 a2 a3 a4 a5 : Int32) : SimI Inv (cC_3 a1 a2 a3 a4 a5) (cM_3 a1 a2 a3 a4 a5) := by
  intro σ τ hI
  obtain ⟨h_now, h_dep, h_pts, h_shp, h_tap, h_act, h_stk, h_age, h_twn, h_not, h_box, h_esc, h_rep, h_chn, h_hok, h_law, h_con⟩ := id hI
  obtain ⟨r, σ', τ', r1, r2, P, f, g⟩ := o_report a1 a2 a3 a4 a5 h_rep h_shp h_now
  exact ⟨r, σ', τ', r1, r2, h_now.fr f g (by decide), h_dep.fr f g (by decide), h_pts.fr f g (by decide), h_shp.fr f g (by decide), h_tap.fr f g (by decide), h_act.fr f g (by decide), h_stk.fr f g (by decide), h_age.fr f g (by decide), h_twn.fr f g (by decide), h_not.fr f g (by decide), h_box.fr f g (by decide), h_esc.fr f g (by decide), P, h_chn.fr f g (by decide), h_hok.fr f g (by decide), h_law.fr f g (by decide), h_con.fr f g (by decide)⟩
set_option maxHeartbeats 200000 in
theorem sim_4 (a1 a2 a3 : Int32) : SimI Inv (cC_4 a1 a2 a3) (cM_4 a1 a2 a3) := by
  intro σ τ hI
  obtain ⟨h_now, h_dep, h_pts, h_shp, h_tap, h_act, h_stk, h_age, h_twn, h_not, h_box, h_esc, h_rep, h_chn, h_hok, h_law, h_con⟩ := id hI
  obtain ⟨r, r1, r2⟩ := q_where a1 a2 a3 h_rep h_shp
  unfold cC_4 cM_4
  rw [r1, r2]
  exact ⟨r, σ, τ, rfl, rfl, hI⟩
set_option maxHeartbeats 200000 in
theorem sim_5 (a1 a2 : Int32) : SimI Inv (cC_5 a1 a2) (cM_5 a1 a2) := by
  intro σ τ hI
  obtain ⟨h_now, h_dep, h_pts, h_shp, h_tap, h_act, h_stk, h_age, h_twn, h_not, h_box, h_esc, h_rep, h_chn, h_hok, h_law, h_con⟩ := id hI
  obtain ⟨r, σ', τ', r1, r2, P, f, g⟩ := o_chain a1 a2 h_rep h_shp h_chn
  exact ⟨r, σ', τ', r1, r2, h_now.fr f g (by decide), h_dep.fr f g (by decide), h_pts.fr f g (by decide), h_shp.fr f g (by decide), h_tap.fr f g (by decide), h_act.fr f g (by decide), h_stk.fr f g (by decide), h_age.fr f g (by decide), h_twn.fr f g (by decide), h_not.fr f g (by decide), h_box.fr f g (by decide), h_esc.fr f g (by decide), h_rep.fr f g (by decide), P, h_hok.fr f g (by decide), h_law.fr f g (by decide), h_con.fr f g (by decide)⟩
set_option maxHeartbeats 200000 in
theorem sim_6 (a1 : Int32) : SimI Inv (cC_6 a1) (cM_6 a1) := by
  intro σ τ hI
  obtain ⟨h_now, h_dep, h_pts, h_shp, h_tap, h_act, h_stk, h_age, h_twn, h_not, h_box, h_esc, h_rep, h_chn, h_hok, h_law, h_con⟩ := id hI
  obtain ⟨r, r1, r2⟩ := q_chained a1 h_chn
  unfold cC_6 cM_6
  rw [r1, r2]
  exact ⟨r, σ, τ, rfl, rfl, hI⟩
set_option maxHeartbeats 200000 in
theorem sim_7 (a1 a2 a3 : Int32) : SimI Inv (cC_7 a1 a2 a3) (cM_7 a1 a2 a3) := by
  intro σ τ hI
  obtain ⟨h_now, h_dep, h_pts, h_shp, h_tap, h_act, h_stk, h_age, h_twn, h_not, h_box, h_esc, h_rep, h_chn, h_hok, h_law, h_con⟩ := id hI
  obtain ⟨r, σ', τ', r1, r2, P, f, g⟩ := o_point a1 a2 a3 h_pts
  exact ⟨r, σ', τ', r1, r2, h_now.fr f g (by decide), h_dep.fr f g (by decide), P, h_shp.fr f g (by decide), h_tap.fr f g (by decide), h_act.fr f g (by decide), h_stk.fr f g (by decide), h_age.fr f g (by decide), h_twn.fr f g (by decide), h_not.fr f g (by decide), h_box.fr f g (by decide), h_esc.fr f g (by decide), h_rep.fr f g (by decide), h_chn.fr f g (by decide), h_hok.fr f g (by decide), h_law.fr f g (by decide), h_con.fr f g (by decide)⟩
set_option maxHeartbeats 200000 in
theorem sim_8 (a1 a2 : Int32) : SimI Inv (cC_8 a1 a2) (cM_8 a1 a2) := by
  intro σ τ hI
  obtain ⟨h_now, h_dep, h_pts, h_shp, h_tap, h_act, h_stk, h_age, h_twn, h_not, h_box, h_esc, h_rep, h_chn, h_hok, h_law, h_con⟩ := id hI
  obtain ⟨r, σ', τ', r1, r2, P, f, g⟩ := o_chart a1 a2 h_pts
  exact ⟨r, σ', τ', r1, r2, h_now.fr f g (by decide), h_dep.fr f g (by decide), P, h_shp.fr f g (by decide), h_tap.fr f g (by decide), h_act.fr f g (by decide), h_stk.fr f g (by decide), h_age.fr f g (by decide), h_twn.fr f g (by decide), h_not.fr f g (by decide), h_box.fr f g (by decide), h_esc.fr f g (by decide), h_rep.fr f g (by decide), h_chn.fr f g (by decide), h_hok.fr f g (by decide), h_law.fr f g (by decide), h_con.fr f g (by decide)⟩
set_option maxHeartbeats 200000 in
theorem sim_9 (a1 a2 : Int32) : SimI Inv (cC_9 a1 a2) (cM_9 a1 a2) := by
  intro σ τ hI
  obtain ⟨h_now, h_dep, h_pts, h_shp, h_tap, h_act, h_stk, h_age, h_twn, h_not, h_box, h_esc, h_rep, h_chn, h_hok, h_law, h_con⟩ := id hI
  obtain ⟨r, σ', τ', r1, r2, P, f, g⟩ := o_reach a1 a2 h_law
  exact ⟨r, σ', τ', r1, r2, h_now.fr f g (by decide), h_dep.fr f g (by decide), h_pts.fr f g (by decide), h_shp.fr f g (by decide), h_tap.fr f g (by decide), h_act.fr f g (by decide), h_stk.fr f g (by decide), h_age.fr f g (by decide), h_twn.fr f g (by decide), h_not.fr f g (by decide), h_box.fr f g (by decide), h_esc.fr f g (by decide), h_rep.fr f g (by decide), h_chn.fr f g (by decide), h_hok.fr f g (by decide), h_law.fr f g (by decide), h_con.fr f g (by decide)⟩
set_option maxHeartbeats 200000 in
theorem sim_10 (a1 a2 a3 a4 a5 : Int32) : SimI Inv (cC_10 a1 a2 a3 a4 a5) (cM_10 a1 a2 a3 a4 a5) := by
  intro σ τ hI
  obtain ⟨h_now, h_dep, h_pts, h_shp, h_tap, h_act, h_stk, h_age, h_twn, h_not, h_box, h_esc, h_rep, h_chn, h_hok, h_law, h_con⟩ := id hI
  obtain ⟨r, σ', τ', r1, r2, P, f, g⟩ := o_within a1 a2 a3 a4 a5 h_law h_pts
  exact ⟨r, σ', τ', r1, r2, h_now.fr f g (by decide), h_dep.fr f g (by decide), h_pts.fr f g (by decide), h_shp.fr f g (by decide), h_tap.fr f g (by decide), h_act.fr f g (by decide), h_stk.fr f g (by decide), h_age.fr f g (by decide), h_twn.fr f g (by decide), h_not.fr f g (by decide), h_box.fr f g (by decide), h_esc.fr f g (by decide), h_rep.fr f g (by decide), h_chn.fr f g (by decide), h_hok.fr f g (by decide), h_law.fr f g (by decide), h_con.fr f g (by decide)⟩
set_option maxHeartbeats 200000 in
theorem sim_11 (a1 a2 a3 a4 : Int32) : SimL Inv (cC_11 a1 a2 a3 a4) (cM_11 a1 a2 a3 a4) := by
  intro σ τ hI
  obtain ⟨h_now, h_dep, h_pts, h_shp, h_tap, h_act, h_stk, h_age, h_twn, h_not, h_box, h_esc, h_rep, h_chn, h_hok, h_law, h_con⟩ := id hI
  obtain ⟨r, σ', τ', r1, r2, P, f, g⟩ := o_inside a1 a2 a3 a4 h_law h_shp h_rep h_pts
  exact ⟨r, σ', τ', r1, r2, h_now.fr f g (by decide), h_dep.fr f g (by decide), h_pts.fr f g (by decide), h_shp.fr f g (by decide), h_tap.fr f g (by decide), h_act.fr f g (by decide), h_stk.fr f g (by decide), h_age.fr f g (by decide), h_twn.fr f g (by decide), h_not.fr f g (by decide), h_box.fr f g (by decide), h_esc.fr f g (by decide), h_rep.fr f g (by decide), h_chn.fr f g (by decide), h_hok.fr f g (by decide), h_law.fr f g (by decide), h_con.fr f g (by decide)⟩
set_option maxHeartbeats 200000 in
theorem sim_12 (a1 a2 : Int32) : SimI Inv (cC_12 a1 a2) (cM_12 a1 a2) := by
  intro σ τ hI
  obtain ⟨h_now, h_dep, h_pts, h_shp, h_tap, h_act, h_stk, h_age, h_twn, h_not, h_box, h_esc, h_rep, h_chn, h_hok, h_law, h_con⟩ := id hI
  obtain ⟨r, r1, r2⟩ := q_beside a1 a2 h_rep h_shp h_pts
  unfold cC_12 cM_12
  rw [r1, r2]
  exact ⟨r, σ, τ, rfl, rfl, hI⟩
set_option maxHeartbeats 200000 in
theorem sim_13 (a1 a2 a3 a4 a5 : Int32) : SimI Inv (cC_13 a1 a2 a3 a4 a5) (cM_13 a1 a2 a3 a4 a5) := by
  intro σ τ hI
  obtain ⟨h_now, h_dep, h_pts, h_shp, h_tap, h_act, h_stk, h_age, h_twn, h_not, h_box, h_esc, h_rep, h_chn, h_hok, h_law, h_con⟩ := id hI
  obtain ⟨r, σ', τ', r1, r2, P, f, g⟩ := o_feed a1 a2 a3 a4 a5 h_tap
  exact ⟨r, σ', τ', r1, r2, h_now.fr f g (by decide), h_dep.fr f g (by decide), h_pts.fr f g (by decide), h_shp.fr f g (by decide), P, h_act.fr f g (by decide), h_stk.fr f g (by decide), h_age.fr f g (by decide), h_twn.fr f g (by decide), h_not.fr f g (by decide), h_box.fr f g (by decide), h_esc.fr f g (by decide), h_rep.fr f g (by decide), h_chn.fr f g (by decide), h_hok.fr f g (by decide), h_law.fr f g (by decide), h_con.fr f g (by decide)⟩
set_option maxHeartbeats 200000 in
theorem sim_14 (a1 : Int32) : SimI Inv (cC_14 a1) (cM_14 a1) := by
  intro σ τ hI
  obtain ⟨h_now, h_dep, h_pts, h_shp, h_tap, h_act, h_stk, h_age, h_twn, h_not, h_box, h_esc, h_rep, h_chn, h_hok, h_law, h_con⟩ := id hI
  obtain ⟨r, σ', τ', r1, r2, P, f, g⟩ := o_end a1 h_tap
  exact ⟨r, σ', τ', r1, r2, h_now.fr f g (by decide), h_dep.fr f g (by decide), h_pts.fr f g (by decide), h_shp.fr f g (by decide), P, h_act.fr f g (by decide), h_stk.fr f g (by decide), h_age.fr f g (by decide), h_twn.fr f g (by decide), h_not.fr f g (by decide), h_box.fr f g (by decide), h_esc.fr f g (by decide), h_rep.fr f g (by decide), h_chn.fr f g (by decide), h_hok.fr f g (by decide), h_law.fr f g (by decide), h_con.fr f g (by decide)⟩
set_option maxHeartbeats 200000 in
theorem sim_16 (a1 a2 : Int32) : SimI Inv (cC_16 a1 a2) (cM_16 a1 a2) := by
  intro σ τ hI
  obtain ⟨h_now, h_dep, h_pts, h_shp, h_tap, h_act, h_stk, h_age, h_twn, h_not, h_box, h_esc, h_rep, h_chn, h_hok, h_law, h_con⟩ := id hI
  obtain ⟨r, r1, r2⟩ := q_inForce a1 a2 h_law
  unfold cC_16 cM_16
  rw [r1, r2]
  exact ⟨r, σ, τ, rfl, rfl, hI⟩
set_option maxHeartbeats 200000 in
theorem sim_17 (a1 a2 a3 a4 a5 a6 : Int32) : SimI Inv (cC_17 a1 a2 a3 a4 a5 a6) (cM_17 a1 a2 a3 a4 a5 a6) := by
  intro σ τ hI
  obtain ⟨h_now, h_dep, h_pts, h_shp, h_tap, h_act, h_stk, h_age, h_twn, h_not, h_box, h_esc, h_rep, h_chn, h_hok, h_law, h_con⟩ := id hI
  obtain ⟨r, σ', τ', r1, r2, P, f, g⟩ := o_may a1 a2 a3 a4 a5 a6 h_law h_shp h_dep h_pts
  exact ⟨r, σ', τ', r1, r2, h_now.fr f g (by decide), h_dep.fr f g (by decide), h_pts.fr f g (by decide), h_shp.fr f g (by decide), h_tap.fr f g (by decide), h_act.fr f g (by decide), h_stk.fr f g (by decide), h_age.fr f g (by decide), h_twn.fr f g (by decide), h_not.fr f g (by decide), h_box.fr f g (by decide), h_esc.fr f g (by decide), h_rep.fr f g (by decide), h_chn.fr f g (by decide), h_hok.fr f g (by decide), h_law.fr f g (by decide), h_con.fr f g (by decide)⟩
set_option maxHeartbeats 200000 in
theorem sim_18 (a1 a2 a3 a4 a5 : Int32) : SimL Inv (cC_18 a1 a2 a3 a4 a5) (cM_18 a1 a2 a3 a4 a5) := by
  intro σ τ hI
  obtain ⟨h_now, h_dep, h_pts, h_shp, h_tap, h_act, h_stk, h_age, h_twn, h_not, h_box, h_esc, h_rep, h_chn, h_hok, h_law, h_con⟩ := id hI
  obtain ⟨r, σ', τ', r1, r2, P, f, g⟩ := o_mesh a1 a2 a3 a4 a5 h_law h_shp h_dep
  exact ⟨r, σ', τ', r1, r2, h_now.fr f g (by decide), h_dep.fr f g (by decide), h_pts.fr f g (by decide), h_shp.fr f g (by decide), h_tap.fr f g (by decide), h_act.fr f g (by decide), h_stk.fr f g (by decide), h_age.fr f g (by decide), h_twn.fr f g (by decide), h_not.fr f g (by decide), h_box.fr f g (by decide), h_esc.fr f g (by decide), h_rep.fr f g (by decide), h_chn.fr f g (by decide), h_hok.fr f g (by decide), h_law.fr f g (by decide), h_con.fr f g (by decide)⟩
set_option maxHeartbeats 200000 in
theorem sim_19 (a1 a2 a3 a4 a5 a6 : Int32) : SimI Inv (cC_19 a1 a2 a3 a4 a5 a6) (cM_19 a1 a2 a3 a4 a5 a6) := by
  intro σ τ hI
  obtain ⟨h_now, h_dep, h_pts, h_shp, h_tap, h_act, h_stk, h_age, h_twn, h_not, h_box, h_esc, h_rep, h_chn, h_hok, h_law, h_con⟩ := id hI
  obtain ⟨r, σ', τ', r1, r2, P, f, g⟩ := o_by a1 a2 a3 a4 a5 a6 h_law h_shp h_dep h_pts
  exact ⟨r, σ', τ', r1, r2, h_now.fr f g (by decide), h_dep.fr f g (by decide), h_pts.fr f g (by decide), h_shp.fr f g (by decide), h_tap.fr f g (by decide), h_act.fr f g (by decide), h_stk.fr f g (by decide), h_age.fr f g (by decide), h_twn.fr f g (by decide), h_not.fr f g (by decide), h_box.fr f g (by decide), h_esc.fr f g (by decide), h_rep.fr f g (by decide), h_chn.fr f g (by decide), h_hok.fr f g (by decide), h_law.fr f g (by decide), h_con.fr f g (by decide)⟩
set_option maxHeartbeats 200000 in
theorem sim_20 (a1 a2 a3 a4 a5 : Int32) : SimI Inv (cC_20 a1 a2 a3 a4 a5) (cM_20 a1 a2 a3 a4 a5) := by
  intro σ τ hI
  obtain ⟨h_now, h_dep, h_pts, h_shp, h_tap, h_act, h_stk, h_age, h_twn, h_not, h_box, h_esc, h_rep, h_chn, h_hok, h_law, h_con⟩ := id hI
  obtain ⟨r, σ', τ', r1, r2, P, f, g⟩ := o_act a1 a2 a3 a4 a5 h_act h_shp h_now
  exact ⟨r, σ', τ', r1, r2, h_now.fr f g (by decide), h_dep.fr f g (by decide), h_pts.fr f g (by decide), h_shp.fr f g (by decide), h_tap.fr f g (by decide), P, h_stk.fr f g (by decide), h_age.fr f g (by decide), h_twn.fr f g (by decide), h_not.fr f g (by decide), h_box.fr f g (by decide), h_esc.fr f g (by decide), h_rep.fr f g (by decide), h_chn.fr f g (by decide), h_hok.fr f g (by decide), h_law.fr f g (by decide), h_con.fr f g (by decide)⟩
set_option maxHeartbeats 200000 in
theorem sim_21 (a1 a2 : Int32) : SimI Inv (cC_21 a1 a2) (cM_21 a1 a2) := by
  intro σ τ hI
  obtain ⟨h_now, h_dep, h_pts, h_shp, h_tap, h_act, h_stk, h_age, h_twn, h_not, h_box, h_esc, h_rep, h_chn, h_hok, h_law, h_con⟩ := id hI
  obtain ⟨r, σ', τ', r1, r2, P, f, g⟩ := o_kept a1 a2 ⟨h_law, h_shp, h_dep, h_pts, h_act⟩
  exact ⟨r, σ', τ', r1, r2, h_now.fr f g (by decide), h_dep.fr f g (by decide), h_pts.fr f g (by decide), h_shp.fr f g (by decide), h_tap.fr f g (by decide), h_act.fr f g (by decide), h_stk.fr f g (by decide), h_age.fr f g (by decide), h_twn.fr f g (by decide), h_not.fr f g (by decide), h_box.fr f g (by decide), h_esc.fr f g (by decide), h_rep.fr f g (by decide), h_chn.fr f g (by decide), h_hok.fr f g (by decide), h_law.fr f g (by decide), h_con.fr f g (by decide)⟩
set_option maxHeartbeats 200000 in
theorem sim_22 (a1 a2 : Int32) : SimI Inv (cC_22 a1 a2) (cM_22 a1 a2) := by
  intro σ τ hI
  obtain ⟨h_now, h_dep, h_pts, h_shp, h_tap, h_act, h_stk, h_age, h_twn, h_not, h_box, h_esc, h_rep, h_chn, h_hok, h_law, h_con⟩ := id hI
  obtain ⟨r, σ', τ', r1, r2, P, f, g⟩ := o_broken a1 a2 ⟨h_law, h_shp, h_dep, h_pts, h_act⟩
  exact ⟨r, σ', τ', r1, r2, h_now.fr f g (by decide), h_dep.fr f g (by decide), h_pts.fr f g (by decide), h_shp.fr f g (by decide), h_tap.fr f g (by decide), h_act.fr f g (by decide), h_stk.fr f g (by decide), h_age.fr f g (by decide), h_twn.fr f g (by decide), h_not.fr f g (by decide), h_box.fr f g (by decide), h_esc.fr f g (by decide), h_rep.fr f g (by decide), h_chn.fr f g (by decide), h_hok.fr f g (by decide), h_law.fr f g (by decide), h_con.fr f g (by decide)⟩
set_option maxHeartbeats 200000 in
theorem sim_23 (a1 a2 a3 a4 a5 a6 : Int32) : SimI Inv (cC_23 a1 a2 a3 a4 a5 a6) (cM_23 a1 a2 a3 a4 a5 a6) := by
  intro σ τ hI
  obtain ⟨h_now, h_dep, h_pts, h_shp, h_tap, h_act, h_stk, h_age, h_twn, h_not, h_box, h_esc, h_rep, h_chn, h_hok, h_law, h_con⟩ := id hI
  obtain ⟨r, σ', τ', r1, r2, P, f, g⟩ := o_hook a1 a2 a3 a4 a5 a6 h_hok
  exact ⟨r, σ', τ', r1, r2, h_now.fr f g (by decide), h_dep.fr f g (by decide), h_pts.fr f g (by decide), h_shp.fr f g (by decide), h_tap.fr f g (by decide), h_act.fr f g (by decide), h_stk.fr f g (by decide), h_age.fr f g (by decide), h_twn.fr f g (by decide), h_not.fr f g (by decide), h_box.fr f g (by decide), h_esc.fr f g (by decide), h_rep.fr f g (by decide), h_chn.fr f g (by decide), P, h_law.fr f g (by decide), h_con.fr f g (by decide)⟩
set_option maxHeartbeats 200000 in
theorem sim_24 : SimI Inv (cC_24) (cM_24) := by
  intro σ τ hI
  obtain ⟨h_now, h_dep, h_pts, h_shp, h_tap, h_act, h_stk, h_age, h_twn, h_not, h_box, h_esc, h_rep, h_chn, h_hok, h_law, h_con⟩ := id hI
  exact ⟨σ.1 611, σ, τ, rfl, congrArg (fun z => some (z, τ)) (show τ.1 61 = σ.1 611 from Eq.symm h_hok), hI⟩
set_option maxHeartbeats 200000 in
theorem sim_25 (a1 a2 a3 a4 : Int32) : SimI Inv (cC_25 a1 a2 a3 a4) (cM_25 a1 a2 a3 a4) := by
  intro σ τ hI
  obtain ⟨h_now, h_dep, h_pts, h_shp, h_tap, h_act, h_stk, h_age, h_twn, h_not, h_box, h_esc, h_rep, h_chn, h_hok, h_law, h_con⟩ := id hI
  obtain ⟨r, r1, r2⟩ := q_way a1 a2 a3 a4 h_rep h_shp
  unfold cC_25 cM_25
  rw [r1, r2]
  exact ⟨r, σ, τ, rfl, rfl, hI⟩
set_option maxHeartbeats 200000 in
theorem sim_26 (a1 a2 a3 : Int32) : SimI Inv (cC_26 a1 a2 a3) (cM_26 a1 a2 a3) := by
  intro σ τ hI
  obtain ⟨h_now, h_dep, h_pts, h_shp, h_tap, h_act, h_stk, h_age, h_twn, h_not, h_box, h_esc, h_rep, h_chn, h_hok, h_law, h_con⟩ := id hI
  obtain ⟨r, σ', τ', r1, r2, P, f, g⟩ := o_office a1 a2 a3 h_stk
  exact ⟨r, σ', τ', r1, r2, h_now.fr f g (by decide), h_dep.fr f g (by decide), h_pts.fr f g (by decide), h_shp.fr f g (by decide), h_tap.fr f g (by decide), h_act.fr f g (by decide), P, h_age.fr f g (by decide), h_twn.fr f g (by decide), h_not.fr f g (by decide), h_box.fr f g (by decide), h_esc.fr f g (by decide), h_rep.fr f g (by decide), h_chn.fr f g (by decide), h_hok.fr f g (by decide), h_law.fr f g (by decide), h_con.fr f g (by decide)⟩
set_option maxHeartbeats 200000 in
theorem sim_27 (a1 a2 a3 : Int32) : SimI Inv (cC_27 a1 a2 a3) (cM_27 a1 a2 a3) := by
  intro σ τ hI
  obtain ⟨h_now, h_dep, h_pts, h_shp, h_tap, h_act, h_stk, h_age, h_twn, h_not, h_box, h_esc, h_rep, h_chn, h_hok, h_law, h_con⟩ := id hI
  obtain ⟨r, σ', τ', r1, r2, P, f, g⟩ := o_year a1 a2 a3 h_stk
  exact ⟨r, σ', τ', r1, r2, h_now.fr f g (by decide), h_dep.fr f g (by decide), h_pts.fr f g (by decide), h_shp.fr f g (by decide), h_tap.fr f g (by decide), h_act.fr f g (by decide), P, h_age.fr f g (by decide), h_twn.fr f g (by decide), h_not.fr f g (by decide), h_box.fr f g (by decide), h_esc.fr f g (by decide), h_rep.fr f g (by decide), h_chn.fr f g (by decide), h_hok.fr f g (by decide), h_law.fr f g (by decide), h_con.fr f g (by decide)⟩
set_option maxHeartbeats 200000 in
theorem sim_28 (a1 a2 : Int32) : SimL Inv (cC_28 a1 a2) (cM_28 a1 a2) := by
  intro σ τ hI
  obtain ⟨h_now, h_dep, h_pts, h_shp, h_tap, h_act, h_stk, h_age, h_twn, h_not, h_box, h_esc, h_rep, h_chn, h_hok, h_law, h_con⟩ := id hI
  obtain ⟨r, r1, r2⟩ := q_stock a1 a2 h_stk
  unfold cC_28 cM_28
  rw [r1, r2]
  exact ⟨r, σ, τ, rfl, rfl, hI⟩
set_option maxHeartbeats 200000 in
theorem sim_29 (a1 : Int32) : SimI Inv (cC_29 a1) (cM_29 a1) := by
  intro σ τ hI
  obtain ⟨h_now, h_dep, h_pts, h_shp, h_tap, h_act, h_stk, h_age, h_twn, h_not, h_box, h_esc, h_rep, h_chn, h_hok, h_law, h_con⟩ := id hI
  obtain ⟨r, r1, r2⟩ := q_fails a1 h_stk
  unfold cC_29 cM_29
  rw [r1, r2]
  exact ⟨r, σ, τ, rfl, rfl, hI⟩
set_option maxHeartbeats 200000 in
theorem sim_30 (a1 a2 : Int32) : SimI Inv (cC_30 a1 a2) (cM_30 a1 a2) := by
  intro σ τ hI
  obtain ⟨h_now, h_dep, h_pts, h_shp, h_tap, h_act, h_stk, h_age, h_twn, h_not, h_box, h_esc, h_rep, h_chn, h_hok, h_law, h_con⟩ := id hI
  obtain ⟨r, r1, r2⟩ := q_agree a1 a2 h_stk
  unfold cC_30 cM_30
  rw [r1, r2]
  exact ⟨r, σ, τ, rfl, rfl, hI⟩
set_option maxHeartbeats 200000 in
theorem sim_31 (a1 a2 a3 a4 : Int32) : SimI Inv (cC_31 a1 a2 a3 a4) (cM_31 a1 a2 a3 a4) := by
  intro σ τ hI
  obtain ⟨h_now, h_dep, h_pts, h_shp, h_tap, h_act, h_stk, h_age, h_twn, h_not, h_box, h_esc, h_rep, h_chn, h_hok, h_law, h_con⟩ := id hI
  obtain ⟨r, σ', τ', r1, r2, P, f, g⟩ := o_age a1 a2 a3 a4 h_age
  exact ⟨r, σ', τ', r1, r2, h_now.fr f g (by decide), h_dep.fr f g (by decide), h_pts.fr f g (by decide), h_shp.fr f g (by decide), h_tap.fr f g (by decide), h_act.fr f g (by decide), h_stk.fr f g (by decide), P, h_twn.fr f g (by decide), h_not.fr f g (by decide), h_box.fr f g (by decide), h_esc.fr f g (by decide), h_rep.fr f g (by decide), h_chn.fr f g (by decide), h_hok.fr f g (by decide), h_law.fr f g (by decide), h_con.fr f g (by decide)⟩
set_option maxHeartbeats 200000 in
theorem sim_32 (a1 a2 a3 a4 a5 : Int32) : SimL Inv (cC_32 a1 a2 a3 a4 a5) (cM_32 a1 a2 a3 a4 a5) := by
  intro σ τ hI
  obtain ⟨h_now, h_dep, h_pts, h_shp, h_tap, h_act, h_stk, h_age, h_twn, h_not, h_box, h_esc, h_rep, h_chn, h_hok, h_law, h_con⟩ := id hI
  obtain ⟨r, σ', τ', r1, r2, P, f, g⟩ := o_landed a1 a2 a3 a4 a5 h_age
  exact ⟨r, σ', τ', r1, r2, h_now.fr f g (by decide), h_dep.fr f g (by decide), h_pts.fr f g (by decide), h_shp.fr f g (by decide), h_tap.fr f g (by decide), h_act.fr f g (by decide), h_stk.fr f g (by decide), h_age.fr f g (by decide), h_twn.fr f g (by decide), h_not.fr f g (by decide), h_box.fr f g (by decide), h_esc.fr f g (by decide), h_rep.fr f g (by decide), h_chn.fr f g (by decide), h_hok.fr f g (by decide), h_law.fr f g (by decide), h_con.fr f g (by decide)⟩
set_option maxHeartbeats 200000 in
theorem sim_33 (a1 a2 a3 a4 a5 : Int32) : SimI Inv (cC_33 a1 a2 a3 a4 a5) (cM_33 a1 a2 a3 a4 a5) := by
  intro σ τ hI
  obtain ⟨h_now, h_dep, h_pts, h_shp, h_tap, h_act, h_stk, h_age, h_twn, h_not, h_box, h_esc, h_rep, h_chn, h_hok, h_law, h_con⟩ := id hI
  obtain ⟨r, σ', τ', r1, r2, P, f, g⟩ := o_pays a1 a2 a3 a4 a5 h_age
  exact ⟨r, σ', τ', r1, r2, h_now.fr f g (by decide), h_dep.fr f g (by decide), h_pts.fr f g (by decide), h_shp.fr f g (by decide), h_tap.fr f g (by decide), h_act.fr f g (by decide), h_stk.fr f g (by decide), h_age.fr f g (by decide), h_twn.fr f g (by decide), h_not.fr f g (by decide), h_box.fr f g (by decide), h_esc.fr f g (by decide), h_rep.fr f g (by decide), h_chn.fr f g (by decide), h_hok.fr f g (by decide), h_law.fr f g (by decide), h_con.fr f g (by decide)⟩
set_option maxHeartbeats 200000 in
theorem sim_34 (a1 a2 a3 a4 : Int32) : SimI Inv (cC_34 a1 a2 a3 a4) (cM_34 a1 a2 a3 a4) := by
  intro σ τ hI
  obtain ⟨h_now, h_dep, h_pts, h_shp, h_tap, h_act, h_stk, h_age, h_twn, h_not, h_box, h_esc, h_rep, h_chn, h_hok, h_law, h_con⟩ := id hI
  obtain ⟨r, σ', τ', r1, r2, P, f, g⟩ := o_town a1 a2 a3 a4 h_twn
  exact ⟨r, σ', τ', r1, r2, h_now.fr f g (by decide), h_dep.fr f g (by decide), h_pts.fr f g (by decide), h_shp.fr f g (by decide), h_tap.fr f g (by decide), h_act.fr f g (by decide), h_stk.fr f g (by decide), h_age.fr f g (by decide), P, h_not.fr f g (by decide), h_box.fr f g (by decide), h_esc.fr f g (by decide), h_rep.fr f g (by decide), h_chn.fr f g (by decide), h_hok.fr f g (by decide), h_law.fr f g (by decide), h_con.fr f g (by decide)⟩
set_option maxHeartbeats 200000 in
theorem sim_35 (a1 a2 a3 : Int32) : SimI Inv (cC_35 a1 a2 a3) (cM_35 a1 a2 a3) := by
  intro σ τ hI
  obtain ⟨h_now, h_dep, h_pts, h_shp, h_tap, h_act, h_stk, h_age, h_twn, h_not, h_box, h_esc, h_rep, h_chn, h_hok, h_law, h_con⟩ := id hI
  obtain ⟨r, σ', τ', r1, r2, P, f, g⟩ := o_bar a1 a2 a3 h_twn
  exact ⟨r, σ', τ', r1, r2, h_now.fr f g (by decide), h_dep.fr f g (by decide), h_pts.fr f g (by decide), h_shp.fr f g (by decide), h_tap.fr f g (by decide), h_act.fr f g (by decide), h_stk.fr f g (by decide), h_age.fr f g (by decide), P, h_not.fr f g (by decide), h_box.fr f g (by decide), h_esc.fr f g (by decide), h_rep.fr f g (by decide), h_chn.fr f g (by decide), h_hok.fr f g (by decide), h_law.fr f g (by decide), h_con.fr f g (by decide)⟩
set_option maxHeartbeats 200000 in
theorem sim_36 (a1 a2 : Int32) : SimI Inv (cC_36 a1 a2) (cM_36 a1 a2) := by
  intro σ τ hI
  obtain ⟨h_now, h_dep, h_pts, h_shp, h_tap, h_act, h_stk, h_age, h_twn, h_not, h_box, h_esc, h_rep, h_chn, h_hok, h_law, h_con⟩ := id hI
  obtain ⟨r, r1, r2⟩ := q_lost a1 a2 h_twn
  unfold cC_36 cM_36
  rw [r1, r2]
  exact ⟨r, σ, τ, rfl, rfl, hI⟩
set_option maxHeartbeats 200000 in
theorem sim_37 (a1 : Int32) : SimI Inv (cC_37 a1) (cM_37 a1) := by
  intro σ τ hI
  obtain ⟨h_now, h_dep, h_pts, h_shp, h_tap, h_act, h_stk, h_age, h_twn, h_not, h_box, h_esc, h_rep, h_chn, h_hok, h_law, h_con⟩ := id hI
  obtain ⟨r, r1, r2⟩ := q_yields a1 h_twn
  unfold cC_37 cM_37
  rw [r1, r2]
  exact ⟨r, σ, τ, rfl, rfl, hI⟩
set_option maxHeartbeats 200000 in
theorem sim_38 (a1 : Int32) : SimI Inv (cC_38 a1) (cM_38 a1) := by
  intro σ τ hI
  obtain ⟨h_now, h_dep, h_pts, h_shp, h_tap, h_act, h_stk, h_age, h_twn, h_not, h_box, h_esc, h_rep, h_chn, h_hok, h_law, h_con⟩ := id hI
  obtain ⟨r, r1, r2⟩ := q_side a1 h_twn
  unfold cC_38 cM_38
  rw [r1, r2]
  exact ⟨r, σ, τ, rfl, rfl, hI⟩
set_option maxHeartbeats 200000 in
theorem sim_39 (a1 a2 : Int32) : SimI Inv (cC_39 a1 a2) (cM_39 a1 a2) := by
  intro σ τ hI
  obtain ⟨h_now, h_dep, h_pts, h_shp, h_tap, h_act, h_stk, h_age, h_twn, h_not, h_box, h_esc, h_rep, h_chn, h_hok, h_law, h_con⟩ := id hI
  obtain ⟨r, σ', τ', r1, r2, P, f, g⟩ := o_term a1 a2 h_not
  exact ⟨r, σ', τ', r1, r2, h_now.fr f g (by decide), h_dep.fr f g (by decide), h_pts.fr f g (by decide), h_shp.fr f g (by decide), h_tap.fr f g (by decide), h_act.fr f g (by decide), h_stk.fr f g (by decide), h_age.fr f g (by decide), h_twn.fr f g (by decide), P, h_box.fr f g (by decide), h_esc.fr f g (by decide), h_rep.fr f g (by decide), h_chn.fr f g (by decide), h_hok.fr f g (by decide), h_law.fr f g (by decide), h_con.fr f g (by decide)⟩
set_option maxHeartbeats 200000 in
theorem sim_40 (a1 a2 : Int32) : SimI Inv (cC_40 a1 a2) (cM_40 a1 a2) := by
  intro σ τ hI
  obtain ⟨h_now, h_dep, h_pts, h_shp, h_tap, h_act, h_stk, h_age, h_twn, h_not, h_box, h_esc, h_rep, h_chn, h_hok, h_law, h_con⟩ := id hI
  obtain ⟨r, r1, r2⟩ := q_sign a1 a2 h_not
  unfold cC_40 cM_40
  rw [r1, r2]
  exact ⟨r, σ, τ, rfl, rfl, hI⟩
set_option maxHeartbeats 200000 in
theorem sim_41 (a1 a2 a3 : Int32) : SimI Inv (cC_41 a1 a2 a3) (cM_41 a1 a2 a3) := by
  intro σ τ hI
  obtain ⟨h_now, h_dep, h_pts, h_shp, h_tap, h_act, h_stk, h_age, h_twn, h_not, h_box, h_esc, h_rep, h_chn, h_hok, h_law, h_con⟩ := id hI
  obtain ⟨r, σ', τ', r1, r2, P, f, g⟩ := o_box a1 a2 a3 h_box
  exact ⟨r, σ', τ', r1, r2, h_now.fr f g (by decide), h_dep.fr f g (by decide), h_pts.fr f g (by decide), h_shp.fr f g (by decide), h_tap.fr f g (by decide), h_act.fr f g (by decide), h_stk.fr f g (by decide), h_age.fr f g (by decide), h_twn.fr f g (by decide), h_not.fr f g (by decide), P, h_esc.fr f g (by decide), h_rep.fr f g (by decide), h_chn.fr f g (by decide), h_hok.fr f g (by decide), h_law.fr f g (by decide), h_con.fr f g (by decide)⟩
set_option maxHeartbeats 200000 in
theorem sim_42 (a1 a2 : Int32) : SimI Inv (cC_42 a1 a2) (cM_42 a1 a2) := by
  intro σ τ hI
  obtain ⟨h_now, h_dep, h_pts, h_shp, h_tap, h_act, h_stk, h_age, h_twn, h_not, h_box, h_esc, h_rep, h_chn, h_hok, h_law, h_con⟩ := id hI
  obtain ⟨r, σ', τ', r1, r2, P, f, g⟩ := o_escort a1 a2 h_box h_esc
  exact ⟨r, σ', τ', r1, r2, h_now.fr f g (by decide), h_dep.fr f g (by decide), h_pts.fr f g (by decide), h_shp.fr f g (by decide), h_tap.fr f g (by decide), h_act.fr f g (by decide), h_stk.fr f g (by decide), h_age.fr f g (by decide), h_twn.fr f g (by decide), h_not.fr f g (by decide), h_box.fr f g (by decide), P, h_rep.fr f g (by decide), h_chn.fr f g (by decide), h_hok.fr f g (by decide), h_law.fr f g (by decide), h_con.fr f g (by decide)⟩
set_option maxHeartbeats 200000 in
theorem sim_43 (a1 : Int32) : SimI Inv (cC_43 a1) (cM_43 a1) := by
  intro σ τ hI
  obtain ⟨h_now, h_dep, h_pts, h_shp, h_tap, h_act, h_stk, h_age, h_twn, h_not, h_box, h_esc, h_rep, h_chn, h_hok, h_law, h_con⟩ := id hI
  obtain ⟨r, r1, r2⟩ := q_escorts a1 h_esc
  unfold cC_43 cM_43
  rw [r1, r2]
  exact ⟨r, σ, τ, rfl, rfl, hI⟩
set_option maxHeartbeats 200000 in
theorem sim_44 (a1 : Int32) : SimI Inv (cC_44 a1) (cM_44 a1) := by
  intro σ τ hI
  obtain ⟨h_now, h_dep, h_pts, h_shp, h_tap, h_act, h_stk, h_age, h_twn, h_not, h_box, h_esc, h_rep, h_chn, h_hok, h_law, h_con⟩ := id hI
  have e : f_X11_count a1 τ = f_X10_count a1 σ := by
    obtain ⟨n0, hn0, i1, i2⟩ := h_now
    obtain ⟨n1, hn1, j1, j2, -⟩ := h_shp
    obtain ⟨n2, hn2, k1, k2, -⟩ := h_rep
    obtain ⟨-, -, p3, -⟩ := h_pts
    obtain ⟨n3, hn3, t1, t2, -⟩ := h_tap
    obtain ⟨n4, hn4, a1', a2', -⟩ := h_act
    obtain ⟨⟨n5, hn5, w1, w2⟩, -, -, n6, hn6, w3, w4, -⟩ := h_twn
    obtain ⟨n7, hn7, o1, o2, -⟩ := h_not
    obtain ⟨n8, hn8, b1, b2, -⟩ := h_box
    obtain ⟨L, ks, Ln, K, H, -⟩ := h_law
    unfold f_X10_count f_X11_count
    rw [show rd tC σ 17 0 = _ from rdC_17 (i := 0) (by decide), show rd tC σ 17 1 = _ from rdC_17 (i := 1) (by decide), show rd tM τ 15 0 = _ from rdM_15 (i := 0) (by decide), show rd tM τ 15 1 = _ from rdM_15 (i := 1) (by decide), p3]
    rw [show gF σ 0 = _ from i1, show gF τ 0 = _ from i2, show gF σ 204 = _ from j1, show gF τ 2 = _ from j2, show gF σ 307 = _ from k1, show gF τ 7 = _ from k2, show gF σ 400 = _ from H.2.1, show gF τ 25 = _ from H.2.2.1, show gF σ 9 = _ from a1', show gF τ 53 = _ from a2', show gF σ 804 = _ from w1, show gF τ 71 = _ from w2, show gF σ 806 = _ from w3, show gF τ 76 = _ from w4, show gF σ 902 = _ from o1, show gF τ 80 = _ from o2, show gF σ 1003 = _ from b1, show gF τ 83 = _ from b2, show gF σ 502 = _ from t1, show gF τ 24 = _ from t2]
  have : ∃ r, f_X10_count a1 σ = some r := by
    unfold f_X10_count
    rw [show rd tC σ 17 0 = _ from rdC_17 (i := 0) (by decide), show rd tC σ 17 1 = _ from rdC_17 (i := 1) (by decide)]
    exact ite_some ⟨_, rfl⟩ (ite_some ⟨_, rfl⟩ (ite_some ⟨_, rfl⟩ (ite_some ⟨_, rfl⟩ (ite_some ⟨_, rfl⟩ (ite_some ⟨_, rfl⟩ (ite_some ⟨_, rfl⟩ (ite_some ⟨_, rfl⟩ (ite_some ⟨_, rfl⟩ (ite_some ⟨_, rfl⟩ (ite_some ⟨_, rfl⟩ (ite_some ⟨_, rfl⟩ ⟨_, rfl⟩)))))))))))
  obtain ⟨r, hr⟩ := this
  unfold cC_44 cM_44
  rw [e, hr]
  exact ⟨r, σ, τ, rfl, rfl, hI⟩
set_option maxHeartbeats 200000 in
theorem law_hyp (hst : ∀ a1 a2 : Int32, SimI Inv (cC_15 a1 a2) (cM_15 a1 a2)) : LawHyp Inv := ⟨sim_0, sim_1, sim_2, sim_3, sim_4, sim_5, sim_6, sim_7, sim_8, sim_9, sim_10, sim_11, sim_12, sim_13, sim_14, hst, sim_16, sim_17, sim_18, sim_19, sim_20, sim_21, sim_22, sim_23, sim_24, sim_25, sim_26, sim_27, sim_28, sim_29, sim_30, sim_31, sim_32, sim_33, sim_34, sim_35, sim_36, sim_37, sim_38, sim_39, sim_40, sim_41, sim_42, sim_43, sim_44⟩
set_option maxHeartbeats 200000 in
theorem inv0 : Inv σ0C σ0M := by
  have z : ∀ n, Bn n (fun _ => 0) := fun n i => ⟨0, Nat.zero_le _, rfl⟩
  refine ⟨⟨0, by omega, rfl, rfl⟩, rfl, ⟨rfl, rfl, rfl, rfl, rfl, fun k _ => ⟨0, by omega, rfl⟩⟩, ⟨0, by omega, rfl, rfl, rfl, rfl, rfl, rfl⟩, ⟨0, by omega, rfl, rfl, fun i => ⟨0, by omega, rfl, rfl⟩⟩, ⟨0, by omega, rfl, rfl, fun i hi => absurd hi (by omega)⟩, ⟨rfl, rfl, rfl, z _, z _, z _⟩, ⟨rfl, rfl, rfl, z _, z _, z _⟩, ⟨⟨0, by omega, rfl, rfl⟩, ⟨rfl, rfl, rfl, rfl⟩, ⟨z _, z _, z _⟩, 0, by omega, rfl, rfl, fun t w _ _ => rfl⟩, ?_, ⟨0, by omega, rfl, rfl, rfl, rfl, rfl, z _, z _, z _⟩, ⟨⟨rfl, rfl⟩, Or.inl ⟨rfl, rfl, rfl⟩⟩, ⟨0, by omega, rfl, rfl, ⟨rfl, rfl, rfl, rfl, rfl, rfl⟩, fun i hi => absurd hi (by show ¬ i < 0; omega), fun i hi => absurd hi (by omega)⟩, ⟨0, by omega, rfl, rfl, fun k hk => absurd hk (by omega)⟩, rfl, ?_, rfl, rfl⟩
  · exact ⟨0, by omega, rfl, rfl, rfl, rfl, fun i => by show (-9999 : Int) ≤ (0 : Int32).toInt ∧ (0 : Int32).toInt ≤ 9999; decide, fun i => by show (-9999 : Int) ≤ (0 : Int32).toInt ∧ (0 : Int32).toInt ≤ 9999; decide⟩
  · exact ⟨[], fun _ => 0, 400, 0, ⟨by show 0 ≤ 12; omega, rfl, rfl, rfl, by omega, fun s hs => absurd hs (by show ¬ s < 0; omega), fun i hi => absurd hi (by show ¬ i < 0; omega), fun s hs => absurd hs (by show ¬ s < 0; omega)⟩, rfl, by omega, by omega, by omega, by omega, fun s hs => absurd hs (by show ¬ s < 0; omega)⟩
