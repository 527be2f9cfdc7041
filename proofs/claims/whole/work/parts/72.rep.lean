/-! reports -/
def kyR (M : Nat → Int32) (i : Nat) : Int := (M i).toInt
def M_rep (σ τ : St) : Prop := ∃ n, n ≤ 300 ∧ σ.1 307 = nI n ∧ τ.1 7 = nI n ∧ (σ.2.1 22 = τ.2.1 6 ∧ σ.2.1 23 = τ.2.1 7 ∧ σ.2.1 24 = τ.2.1 8 ∧ σ.2.1 25 = τ.2.1 9 ∧ σ.2.1 26 = τ.2.1 10 ∧ σ.2.1 27 = τ.2.1 11) ∧ Rp (σ.2.1 28) (srt (kyR (σ.2.1 24)) n) ∧ ∀ i, i < n → (0 ≤ (σ.2.1 22 i).toInt ∧ (σ.2.1 22 i).toInt < (σ.1 204).toInt) ∧ (0 ≤ (σ.2.1 23 i).toInt ∧ (σ.2.1 23 i).toInt < (σ.1 204).toInt) ∧ (0 ≤ (σ.2.1 25 i).toInt ∧ (σ.2.1 25 i).toInt ≤ 23) ∧ (0 ≤ (σ.2.1 26 i).toInt ∧ (σ.2.1 26 i).toInt ≤ 23)
theorem putC {σ : St} {l : List Nat} {k : Nat} (hk : k < 300) (hl : ∀ a ∈ l, a < 300) (hlen : l.length < 300) (hs : Srd (kyR (σ.2.1 24)) l) : ∀ (p m : Nat) (A : Nat → Int32), p ≤ l.length → p < m → ShI A l p → (∀ i, p ≤ i → i < l.length → kyR (σ.2.1 24) k < kyR (σ.2.1 24) (l.getD i 0)) → ∃ A', f_X5_putInOrder_2 (nI k) (σ.2.1 24 k) m (nI p) (stA σ 28 A) = some (stA σ 28 A') ∧ Rp A' (ins (kyR (σ.2.1 24)) k l) := by
  intro p
  induction p with
  | zero =>
    intro m A h1 h2 h3 h4
    obtain ⟨m, rfl⟩ : ∃ q, m = q + 1 := ⟨m - 1, by omega⟩
    refine ⟨upd A 0 (nI k), ?_, h3.fin h1 (ins_at l 0 h1 (fun i hi => absurd hi (by omega)) h4)⟩
    unfold f_X5_putInOrder_2 f_X5_putInOrder_37
    rw [if_pos (by decide), wrC_28 (by decide), bS, sA_st, stA_at, stA_2]
  | succ p ih =>
    intro m A h1 h2 h3 h4
    obtain ⟨m, rfl⟩ : ∃ q, m = q + 1 := ⟨m - 1, by omega⟩
    have hr : l.getD p 0 < 300 := hl _ (getD_mem (by omega))
    have hA : A p = nI (l.getD p 0) := h3.1 p (by omega)
    have e1 := nI_toInt (show l.getD p 0 < 2 ^ 31 by omega)
    have rdA : rd tC (stA σ 28 A) 28 (nI p) = some (nI (l.getD p 0)) := by rw [rdC_28 (by omega), stA_at, hA]
    have mA : f_X5_minuteAt (nI p) (stA σ 28 A) = some (σ.2.1 24 (l.getD p 0)) := by
      unfold f_X5_minuteAt
      rw [rdA, bS]
      simp only [lies0, in0, wdL, side0, author0, minute0, year0, week0, cell0, mside0, mminute0, myear0, mweek0, mship0, mtown0, ship0, town0, law0, mcell0, gF, ltI, leI, Int32.reduceToInt, Int64.reduceToInt, e1]
      rw [if_neg (by omega), rdC_24 hr]
      rfl
    unfold f_X5_putInOrder_2
    rw [if_neg (nI_nle (by omega) (by omega)), nI_pred, mA, bS]
    by_cases c : σ.2.1 24 (l.getD p 0) ≤ σ.2.1 24 k
    · rw [if_pos c]
      have c' : kyR (σ.2.1 24) (l.getD p 0) ≤ kyR (σ.2.1 24) k := by rw [leI] at c; exact c
      refine ⟨upd A (p + 1) (nI k), ?_, h3.fin h1 (ins_at l (p + 1) h1 (fun i hi => Int.le_trans (srd_le hs (by omega) (by omega)) c') h4)⟩
      unfold f_X5_putInOrder_37
      rw [wrC_28 (by omega), bS, sA_st, stA_at, stA_2]
    · rw [if_neg c, rdA, bS, wrC_28 (by omega), bS, bndE, pk_m1, sA_st, stA_at, stA_2, ← hA]
      refine ih m _ (by omega) (by omega) h3.step (fun i g1 g2 => ?_)
      by_cases d : i = p
      · subst d
        rw [leI] at c
        unfold kyR
        omega
      · exact h4 i (by omega) g2
theorem o_report (b o m x y : Int32) {σ τ : St} (h : M_rep σ τ) (hs : M_shp σ τ) (hw : M_now σ τ) : Op (f_X10_report b o m x y σ) (f_X11_report b o m x y τ) M_rep ([307], [22, 23, 24, 25, 26, 27, 28], []) ([7], [6, 7, 8, 9, 10, 11], []) σ τ := by
  obtain ⟨n, hn, h1, h2, ⟨a1, a2, a3, a4, a5, a6⟩, hR, hB⟩ := id h
  obtain ⟨ns, hs1, hs2, hs3, -⟩ := id hs
  obtain ⟨nw, hw1, hw2, hw3⟩ := id hw
  have e1 := nI_toInt (show n < 2 ^ 31 by omega)
  have e2 := nI_toInt (show ns < 2 ^ 31 by omega)
  have e3 := nI_toInt (show nw < 2 ^ 31 by omega)
  by_cases hg : n < 300 ∧ (0 ≤ b.toInt ∧ b.toInt < ns) ∧ (0 ≤ o.toInt ∧ o.toInt < ns) ∧ (0 ≤ m.toInt ∧ m.toInt ≤ nw) ∧ (0 ≤ x.toInt ∧ x.toInt ≤ 23 ∧ 0 ≤ y.toInt ∧ y.toInt ≤ 23)
  · obtain ⟨g0, g1, g2, g3, g4⟩ := hg
    have hkey : srt (kyR (upd (σ.2.1 24) n m)) n = srt (kyR (σ.2.1 24)) n := srt_congr n (fun a ha => by unfold kyR; rw [upd_ne _ _ (by omega)])
    have hsl : (srt (kyR (upd (σ.2.1 24) n m)) n).length = n := srt_len _ _
    obtain ⟨A', q1, q2⟩ := putC (σ := sA (sA (sA (sA (sA (sA σ 22 n b) 23 n o) 24 n m) 25 n x) 26 n y) 27 n (nI nw)) (l := srt (kyR (upd (σ.2.1 24) n m)) n) g0 (fun a ha => by have := (srt_mem _ _ _).mp ha; omega) (by omega) (srt_srd (kyR (upd (σ.2.1 24) n m)) n) n FU (σ.2.1 28) (by omega) (by unfold FU; omega) (by have z : Rp (σ.2.1 28) (srt (kyR (upd (σ.2.1 24) n m)) n) := by { rw [hkey]; exact hR }; have z2 := ShI.of z; rw [hsl] at z2; exact z2) (fun i c1 c2 => absurd c2 (by omega))
    have st0 : stA (sA (sA (sA (sA (sA (sA σ 22 n b) 23 n o) 24 n m) 25 n x) 26 n y) 27 n (nI nw)) 28 (σ.2.1 28) = sA (sA (sA (sA (sA (sA σ 22 n b) 23 n o) 24 n m) 25 n x) 26 n y) 27 n (nI nw) := stA_same _ 28
    rw [st0] at q1
    have q1 : f_X5_putInOrder (nI n) m (sA (sA (sA (sA (sA (sA σ 22 n b) 23 n o) 24 n m) 25 n x) 26 n y) 27 n (nI nw)) = some (stA (sA (sA (sA (sA (sA (sA σ 22 n b) 23 n o) 24 n m) 25 n x) 26 n y) 27 n (nI nw)) 28 A') := by
      rw [show (sA (sA (sA (sA (sA (sA σ 22 n b) 23 n o) 24 n m) 25 n x) 26 n y) 27 n (nI nw)).2.1 24 n = m from upd_at _ _ _] at q1
      exact q1
    refine ⟨nI n, sF (stA (sA (sA (sA (sA (sA (sA σ 22 n b) 23 n o) 24 n m) 25 n x) 26 n y) 27 n (nI nw)) 28 A') 307 (nI (n + 1)), sF (sA (sA (sA (sA (sA (sA τ 6 n b) 7 n o) 8 n m) 9 n x) 10 n y) 11 n (nI nw)) 7 (nI (n + 1)), ?_, ?_, ⟨n + 1, g0, rfl, rfl, ⟨congrArg (upd · n b) a1, congrArg (upd · n o) a2, congrArg (upd · n m) a3, congrArg (upd · n x) a4, congrArg (upd · n y) a5, congrArg (upd · n (nI nw)) a6⟩, q2, fun i hi => ?_⟩, (((((((Fr.rf.wA (by decide)).wA (by decide)).wA (by decide)).wA (by decide)).wA (by decide)).wA (by decide)).wSA (by decide)).wF (by decide), ((((((Fr.rf.wA (by decide)).wA (by decide)).wA (by decide)).wA (by decide)).wA (by decide)).wA (by decide)).wF (by decide)⟩
    · unfold f_X10_report f_X5_add
      simp only [lies0, in0, wdL, side0, author0, minute0, year0, week0, cell0, mside0, mminute0, myear0, mweek0, mship0, mtown0, ship0, town0, law0, mcell0, gF, ltI, leI, Int32.reduceToInt, Int64.reduceToInt, h1, hs2, hw2, e1, e2, e3]
      rw [if_neg (by omega), if_neg (by omega), if_neg (by omega), if_neg (by omega), if_pos (by omega)]
      simp only [bS, bndE, gF, sA1, sL1, stA1, stL1, sF1, sA2, sL2, stA2, stL2, sF2, sA3, sL3, stA3, stL3, sF3, Nat.reduceEqDiff, Nat.reduceLT, reduceIte, rlC_11, wlC_11, rlC_12, wlC_12, rdC_13, wrC_13, rdC_14, wrC_14, rdC_15, wrC_15, rdC_16, wrC_16, rdC_17, wrC_17, rdC_18, wrC_18, rdC_19, wrC_19, rdC_20, wrC_20, rdC_21, wrC_21, rdC_22, wrC_22, rdC_23, wrC_23, rdC_24, wrC_24, rdC_25, wrC_25, rdC_26, wrC_26, rdC_27, wrC_27, rdC_28, wrC_28, rdC_29, wrC_29, rdC_30, wrC_30, rdC_31, wrC_31, rdC_32, wrC_32, rdC_33, wrC_33, rdC_34, wrC_34, rdC_35, wrC_35, rdC_36, wrC_36, rdC_38, wrC_38, rdC_39, wrC_39, rdC_40, wrC_40, rdC_41, wrC_41, rdC_42, wrC_42, rdC_43, wrC_43, rlC_44, wlC_44, rdC_45, wrC_45, rdC_46, wrC_46, rdC_47, wrC_47, rdC_48, wrC_48, rdC_49, wrC_49, rdC_50, wrC_50, rdC_51, wrC_51, rdC_52, wrC_52, rdC_53, wrC_53, rdC_54, wrC_54, rdC_55, wrC_55, rlC_56, wlC_56, rlC_57, wlC_57, rdC_58, wrC_58, rdC_59, wrC_59, rdC_60, wrC_60, rdC_61, wrC_61, rdC_62, wrC_62, rdC_63, wrC_63, rdC_64, wrC_64, rdC_65, wrC_65, rdC_66, wrC_66, rdC_67, wrC_67, rlC_68, wlC_68, rdC_69, wrC_69, rdC_70, wrC_70, h1, g0]
      rw [q1]
      simp only [bS, bndE, gF, sA1, sL1, stA1, stL1, sF1, sA2, sL2, stA2, stL2, sF2, sA3, sL3, stA3, stL3, sF3, Nat.reduceEqDiff, Nat.reduceLT, reduceIte, h1, nI_1, nI_pred]
    · unfold f_X11_report
      simp only [lies0, in0, wdL, side0, author0, minute0, year0, week0, cell0, mside0, mminute0, myear0, mweek0, mship0, mtown0, ship0, town0, law0, mcell0, gF, ltI, leI, Int32.reduceToInt, Int64.reduceToInt, h2, hs3, hw3, e1, e2, e3]
      rw [if_neg (by simp only [eqI, e1, Int32.reduceToInt]; omega), if_neg (by omega), if_neg (by omega), if_neg (by omega), if_neg (by omega)]
      simp only [bS, bndE, gF, sA1, sL1, stA1, stL1, sF1, sA2, sL2, stA2, stL2, sF2, sA3, sL3, stA3, stL3, sF3, Nat.reduceEqDiff, Nat.reduceLT, reduceIte, rdM_1, wrM_1, rdM_2, wrM_2, rdM_3, wrM_3, rdM_4, wrM_4, rdM_5, wrM_5, rdM_6, wrM_6, rdM_7, wrM_7, rdM_8, wrM_8, rdM_9, wrM_9, rdM_10, wrM_10, rdM_11, wrM_11, rdM_12, wrM_12, rdM_13, wrM_13, rdM_14, wrM_14, rdM_15, wrM_15, rdM_16, wrM_16, rdM_17, wrM_17, rdM_18, wrM_18, rdM_19, wrM_19, rdM_20, wrM_20, rdM_21, wrM_21, rdM_22, wrM_22, rdM_23, wrM_23, rdM_24, wrM_24, rdM_25, wrM_25, rdM_26, wrM_26, rdM_27, wrM_27, rdM_28, wrM_28, rdM_29, wrM_29, rdM_30, wrM_30, rlM_31, wlM_31, rlM_32, wlM_32, rlM_33, wlM_33, rdM_34, wrM_34, rdM_35, wrM_35, rdM_36, wrM_36, rdM_37, wrM_37, rdM_38, wrM_38, rdM_39, wrM_39, rdM_40, wrM_40, rdM_41, wrM_41, rdM_42, wrM_42, rdM_43, wrM_43, rdM_44, wrM_44, rdM_45, wrM_45, rdM_46, wrM_46, rlM_47, wlM_47, rdM_48, wrM_48, rdM_49, wrM_49, rdM_50, wrM_50, rdM_51, wrM_51, rdM_52, wrM_52, rdM_53, wrM_53, rdM_54, wrM_54, rdM_55, wrM_55, rdM_56, wrM_56, rdM_57, wrM_57, rdM_58, wrM_58, rdM_59, wrM_59, rlM_60, wlM_60, rdM_61, wrM_61, rdM_62, wrM_62, h2, hw3, g0, nI_1, nI_pred]
    · show (0 ≤ (upd (σ.2.1 22) n b i).toInt ∧ (upd (σ.2.1 22) n b i).toInt < (σ.1 204).toInt) ∧ (0 ≤ (upd (σ.2.1 23) n o i).toInt ∧ (upd (σ.2.1 23) n o i).toInt < (σ.1 204).toInt) ∧ (0 ≤ (upd (σ.2.1 25) n x i).toInt ∧ (upd (σ.2.1 25) n x i).toInt ≤ 23) ∧ (0 ≤ (upd (σ.2.1 26) n y i).toInt ∧ (upd (σ.2.1 26) n y i).toInt ≤ 23)
      by_cases c : i = n
      · subst c
        rw [upd_at, upd_at, upd_at, upd_at, hs2, e2]
        exact ⟨g1, g2, ⟨g4.1, g4.2.1⟩, g4.2.2⟩
      · rw [upd_ne _ _ c, upd_ne _ _ c, upd_ne _ _ c, upd_ne _ _ c]
        exact hB i (by omega)
  · refine Op.no (-1) ?_ ?_ h
    · unfold f_X10_report f_X5_add
      simp only [lies0, in0, wdL, side0, author0, minute0, year0, week0, cell0, mside0, mminute0, myear0, mweek0, mship0, mtown0, ship0, town0, law0, mcell0, gF, ltI, leI, Int32.reduceToInt, Int64.reduceToInt, h1, hs2, hw2, e1, e2, e3]
      (repeat' split) <;> first | rfl | (exfalso; omega)
    · unfold f_X11_report
      simp only [lies0, in0, wdL, side0, author0, minute0, year0, week0, cell0, mside0, mminute0, myear0, mweek0, mship0, mtown0, ship0, town0, law0, mcell0, gF, ltI, leI, Int32.reduceToInt, Int64.reduceToInt, h2, hs3, hw3, e1, e2, e3]
      simp only [eqI (nI n), e1, Int32.reduceToInt]
      (repeat' split) <;> first | rfl | (exfalso; omega)
/-! where -/
def qW (B O M K : Nat → Int32) (s m k : Int32) (r : Nat) : Bool := decide (O r = s ∧ B r = s ∧ ¬ m < M r ∧ ¬ k < K r)
def cV (X Y : Nat → Int32) : Option Nat → Int32
  | none => -1
  | some r => 24 * Y r + X r
def bI : Option Nat → Int32
  | none => -1
  | some r => nI r
theorem cellC {σ : St} {n : Nat} (hn : n ≤ 300) (h1 : σ.1 307 = nI n) (hR : Rp (σ.2.1 28) (srt (kyR (σ.2.1 24)) n)) (s mi kn : Int32) : ∀ (p m : Nat), p ≤ n → p < m → f_X5_cellOf_8 s mi kn σ m (nI p - 1) = some (cV (σ.2.1 25) (σ.2.1 26) (lastq (qW (σ.2.1 22) (σ.2.1 23) (σ.2.1 24) (σ.2.1 27) s mi kn) ((srt (kyR (σ.2.1 24)) n).take p))) := by
  have hsl : (srt (kyR (σ.2.1 24)) n).length = n := srt_len _ _
  intro p
  induction p with
  | zero =>
    intro m h2 h3
    obtain ⟨m, rfl⟩ : ∃ q, m = q + 1 := ⟨m - 1, by omega⟩
    unfold f_X5_cellOf_8
    rw [if_pos (by decide)]
    rfl
  | succ p ih =>
    intro m h2 h3
    obtain ⟨m, rfl⟩ : ∃ q, m = q + 1 := ⟨m - 1, by omega⟩
    have ihh := ih m (by omega) (by omega)
    have hr : (srt (kyR (σ.2.1 24)) n).getD p 0 < n := (srt_mem _ _ _).mp (getD_mem (by omega))
    have hA := hR p (by omega)
    rw [lastq_take (by omega)]
    generalize (srt (kyR (σ.2.1 24)) n).getD p 0 = r at *
    have e1 := nI_toInt (show r < 2 ^ 31 by omega)
    have en := nI_toInt (show n - 1 < 2 ^ 31 by omega)
    unfold f_X5_cellOf_8 f_X5_cellOf_100 f_X5_cellOf_81
    simp only [bndE]
    rw [nI_pred, if_neg (nI_pos (by omega)), rdC_28 (by omega), bS, hA, show gF σ 307 = _ from h1, nIs n (by omega)]
    rw [if_neg (by rw [lies0, e1, en]; show ¬ ¬ ((0 : Int) ≤ _ ∧ _); omega), rdC_23 (by omega), bS, m1s, rdC_22 (by omega), bS, rdC_24 (by omega), bS, rdC_27 (by omega), bS, rdC_26 (by omega), bS, rdC_25 (by omega), bS]
    unfold qW
    by_cases c1 : σ.2.1 23 r = s
    · rw [if_pos c1]
      by_cases c2 : σ.2.1 22 r = s
      · rw [if_pos c2]
        by_cases c3 : mi < σ.2.1 24 r
        · rw [if_pos c3, if_neg (by rw [decide_eq_true_iff]; exact fun z => z.2.2.1 c3)]; exact ihh
        · rw [if_neg c3]
          by_cases c4 : kn < σ.2.1 27 r
          · rw [if_pos c4, if_neg (by rw [decide_eq_true_iff]; exact fun z => z.2.2.2 c4)]; exact ihh
          · rw [if_neg c4, if_pos (decide_eq_true ⟨c1, c2, c3, c4⟩)]; rfl
      · rw [if_neg c2, if_neg (by rw [decide_eq_true_iff]; exact fun z => c2 z.2.1)]; exact ihh
    · rw [if_neg c1, if_neg (by rw [decide_eq_true_iff]; exact fun z => c1 z.1)]; exact ihh
theorem cellM {τ : St} {n : Nat} (hn : n ≤ 300) (h1 : τ.1 7 = nI n) (s mi kn : Int32) : ∀ (k i m : Nat), i + k = n → k < m → f_X11_whereIs_6 s mi kn τ m (bI (lastq (qW (τ.2.1 6) (τ.2.1 7) (τ.2.1 8) (τ.2.1 11) s mi kn) (srt (kyR (τ.2.1 8)) i))) (nI i) = some (cV (τ.2.1 9) (τ.2.1 10) (lastq (qW (τ.2.1 6) (τ.2.1 7) (τ.2.1 8) (τ.2.1 11) s mi kn) (srt (kyR (τ.2.1 8)) n))) := by
  intro k
  induction k with
  | zero =>
    intro i m h2 h3
    obtain ⟨m, rfl⟩ : ∃ q, m = q + 1 := ⟨m - 1, by omega⟩
    have : i = n := by omega
    subst this
    unfold f_X11_whereIs_6 f_X11_whereIs_94
    rw [if_pos (by unfold gF; rw [h1]; exact nI_le (Nat.le_refl _) (by omega))]
    cases hq : lastq (qW (τ.2.1 6) (τ.2.1 7) (τ.2.1 8) (τ.2.1 11) s mi kn) (srt (kyR (τ.2.1 8)) i) with
    | none => rw [if_neg (show ¬ (0 : Int32) ≤ bI none by decide)]; rfl
    | some r =>
      have hr := (srt_mem _ _ _).mp (lastq_mem hq).1
      rw [if_pos (show (0 : Int32) ≤ bI (some r) from nI_pos' (by omega))]
      show (rd tM τ 10 (nI r)).bind _ = _
      rw [rdM_10 (by omega), bS]
      show (rd tM τ 9 (nI r)).bind _ = _
      rw [rdM_9 (by omega), bS]
      rfl
  | succ k ih =>
    intro i m h2 h3
    obtain ⟨m, rfl⟩ : ∃ q, m = q + 1 := ⟨m - 1, by omega⟩
    have ihh := ih (i + 1) m (by omega) (by omega)
    have hst : lastq (qW (τ.2.1 6) (τ.2.1 7) (τ.2.1 8) (τ.2.1 11) s mi kn) (srt (kyR (τ.2.1 8)) (i + 1)) = _ := lastq_ins (key := kyR (τ.2.1 8)) (k := i) (qW (τ.2.1 6) (τ.2.1 7) (τ.2.1 8) (τ.2.1 11) s mi kn) (srt_srd (kyR (τ.2.1 8)) i)
    rw [hst] at ihh
    unfold f_X11_whereIs_6 f_X11_whereIs_84 f_X11_whereIs_88
    simp only [bndE]
    rw [if_neg (by unfold gF; rw [h1]; exact nI_ge (by omega) (by omega)), rdM_7 (by omega), bS, rdM_6 (by omega), bS, rdM_11 (by omega), bS, rdM_8 (by omega), bS, bS, nI_1]
    have no : ¬ (τ.2.1 7 i = s ∧ τ.2.1 6 i = s ∧ ¬ mi < τ.2.1 8 i ∧ ¬ kn < τ.2.1 11 i) → f_X11_whereIs_6 s mi kn τ m (bI (lastq (qW (τ.2.1 6) (τ.2.1 7) (τ.2.1 8) (τ.2.1 11) s mi kn) (srt (kyR (τ.2.1 8)) i))) (nI (i + 1)) = some (cV (τ.2.1 9) (τ.2.1 10) (lastq (qW (τ.2.1 6) (τ.2.1 7) (τ.2.1 8) (τ.2.1 11) s mi kn) (srt (kyR (τ.2.1 8)) n))) := by
      intro hno
      rw [if_neg (show ¬ qW (τ.2.1 6) (τ.2.1 7) (τ.2.1 8) (τ.2.1 11) s mi kn i = true by unfold qW; rw [decide_eq_true_iff]; exact hno)] at ihh
      exact ihh
    by_cases c1 : τ.2.1 7 i = s
    · rw [if_pos c1]
      by_cases c2 : τ.2.1 6 i = s
      · rw [if_pos c2]
        by_cases c4 : kn < τ.2.1 11 i
        · rw [if_pos c4]; exact no (fun z => z.2.2.2 c4)
        · rw [if_neg c4]
          by_cases c3 : τ.2.1 8 i ≤ mi
          · rw [if_pos c3]
            have c3' : ¬ mi < τ.2.1 8 i := by rw [ltI]; rw [leI] at c3; omega
            rw [if_pos (show qW (τ.2.1 6) (τ.2.1 7) (τ.2.1 8) (τ.2.1 11) s mi kn i = true from decide_eq_true ⟨c1, c2, c3', c4⟩)] at ihh
            cases hq : lastq (qW (τ.2.1 6) (τ.2.1 7) (τ.2.1 8) (τ.2.1 11) s mi kn) (srt (kyR (τ.2.1 8)) i) with
            | none =>
              rw [hq] at ihh
              rw [if_pos (show bI none < 0 by decide)]
              exact ihh
            | some r =>
              rw [hq] at ihh
              have hr := (srt_mem _ _ _).mp (lastq_mem hq).1
              rw [if_neg (show ¬ bI (some r) < 0 from nI_pos (by omega)), show rd tM τ 8 (bI (some r)) = some (τ.2.1 8 r) from rdM_8 (by omega), bS]
              by_cases d : τ.2.1 8 i < τ.2.1 8 r
              · rw [if_pos d]
                have d' : ¬ kyR (τ.2.1 8) r ≤ kyR (τ.2.1 8) i := by unfold kyR; rw [ltI] at d; omega
                have ihh : f_X11_whereIs_6 s mi kn τ m (bI (if kyR (τ.2.1 8) r ≤ kyR (τ.2.1 8) i then some i else some r)) (nI (i + 1)) = _ := ihh
                rw [if_neg d'] at ihh
                exact ihh
              · rw [if_neg d]
                have d' : kyR (τ.2.1 8) r ≤ kyR (τ.2.1 8) i := by unfold kyR; rw [ltI] at d; omega
                have ihh : f_X11_whereIs_6 s mi kn τ m (bI (if kyR (τ.2.1 8) r ≤ kyR (τ.2.1 8) i then some i else some r)) (nI (i + 1)) = _ := ihh
                rw [if_pos d'] at ihh
                exact ihh
          · rw [if_neg c3]
            exact no (fun z => z.2.2.1 (by rw [ltI]; rw [leI] at c3; omega))
      · rw [if_neg c2]; exact no (fun z => c2 z.2.1)
    · rw [if_neg c1]; exact no (fun z => c1 z.1)
theorem cell_eq {σ τ : St} (h : M_rep σ τ) (s mi kn : Int32) : ∃ c, f_X5_cellOf s mi kn σ = some c ∧ f_X11_whereIs s mi kn τ = some c ∧ (c = -1 ∨ ∃ j, j < 576 ∧ c = nI j) := by
  obtain ⟨n, hn, h1, h2, ⟨a1, a2, a3, a4, a5, a6⟩, hR, hB⟩ := id h
  have q1 := cellC hn h1 hR s mi kn n FU (Nat.le_refl _) (by unfold FU; omega)
  have q2 := cellM hn h2 s mi kn n 0 FU (by omega) (by unfold FU; omega)
  rw [List.take_of_length_le (by rw [srt_len]; exact Nat.le_refl _)] at q1
  rw [← a1, ← a2, ← a3, ← a4, ← a5, ← a6] at q2
  refine ⟨_, ?_, q2, ?_⟩
  · unfold f_X5_cellOf
    rw [show gF σ 307 = _ from h1, bndE]
    exact q1
  · cases hq : lastq (qW (σ.2.1 22) (σ.2.1 23) (σ.2.1 24) (σ.2.1 27) s mi kn) (srt (kyR (σ.2.1 24)) n) with
    | none => exact Or.inl rfl
    | some r =>
      have hr := (srt_mem _ _ _).mp (lastq_mem hq).1
      obtain ⟨-, -, hx, hy⟩ := hB r hr
      obtain ⟨i, hi, ei⟩ := nI_btw (n := 23) hx.1 hx.2
      obtain ⟨j, hj, ej⟩ := nI_btw (n := 23) hy.1 hy.2
      refine Or.inr ⟨24 * j + i, by omega, ?_⟩
      show 24 * σ.2.1 26 r + σ.2.1 25 r = _
      rw [ei, ej]
      exact ixc 24 j i
theorem q_where (s mi kn : Int32) {σ τ : St} (h : M_rep σ τ) (hs : M_shp σ τ) : ∃ r, f_X10_where s mi kn σ = some r ∧ f_X11_where s mi kn τ = some r := by
  obtain ⟨ns, hs1, hs2, hs3, -⟩ := id hs
  have e2 := nI_toInt (show ns < 2 ^ 31 by omega)
  obtain ⟨c, c1, c2, -⟩ := cell_eq h s mi kn
  by_cases hg : (0 ≤ s.toInt ∧ s.toInt < ns) ∧ (0 ≤ mi.toInt ∧ mi.toInt < 9000) ∧ (0 ≤ kn.toInt ∧ kn.toInt < 9000)
  · refine ⟨c, ?_, ?_⟩
    · unfold f_X10_where
      simp only [lies0, in0, wdL, side0, author0, minute0, year0, week0, cell0, mside0, mminute0, myear0, mweek0, mship0, mtown0, ship0, town0, law0, mcell0, gF, ltI, leI, Int32.reduceToInt, Int64.reduceToInt, hs2, e2]
      rw [if_neg (by omega), if_neg (by omega), if_neg (by omega), c1]
      rfl
    · unfold f_X11_where
      simp only [lies0, in0, wdL, side0, author0, minute0, year0, week0, cell0, mside0, mminute0, myear0, mweek0, mship0, mtown0, ship0, town0, law0, mcell0, gF, ltI, leI, Int32.reduceToInt, Int64.reduceToInt, hs3, e2]
      rw [if_neg (by omega), if_neg (by omega), if_neg (by omega), c2]
      rfl
  · refine ⟨-1, ?_, ?_⟩
    · unfold f_X10_where
      simp only [lies0, in0, wdL, side0, author0, minute0, year0, week0, cell0, mside0, mminute0, myear0, mweek0, mship0, mtown0, ship0, town0, law0, mcell0, gF, ltI, leI, Int32.reduceToInt, Int64.reduceToInt, hs2, e2]
      (repeat' split) <;> first | rfl | (exfalso; omega)
    · unfold f_X11_where f_X11_where_32
      simp only [lies0, in0, wdL, side0, author0, minute0, year0, week0, cell0, mside0, mminute0, myear0, mweek0, mship0, mtown0, ship0, town0, law0, mcell0, gF, ltI, leI, Int32.reduceToInt, Int64.reduceToInt, hs3, e2]
      (repeat' split) <;> first | rfl | (exfalso; omega)
def M_chn (σ τ : St) : Prop := ∃ L, L ≤ 300 ∧ σ.1 311 = nI L ∧ τ.1 14 = nI L ∧ ∀ k, k < L → σ.2.1 31 k = τ.2.1 12 k
theorem q_chained (x : Int32) {σ τ : St} (h : M_chn σ τ) : ∃ r, f_X10_chained x σ = some r ∧ f_X11_chained x τ = some r := by
  obtain ⟨L, hL, h1, h2, h3⟩ := h
  have e1 := nI_toInt (show L < 2 ^ 31 by omega)
  have e2 : (nI L - 1).toInt = (L : Int) - 1 := by rw [subI (by rw [e1]; show _ ≤ (L : Int) - 1; omega) (by rw [e1]; show (L : Int) - 1 < _; omega), e1]; rfl
  by_cases hg : 0 ≤ x.toInt ∧ x.toInt < L
  · obtain ⟨k, hk, rfl⟩ := nI_btw (n := 299) hg.1 (by omega)
    have ek := nI_toInt (show k < 2 ^ 31 by omega)
    rw [ek] at hg
    refine ⟨σ.2.1 31 k, ?_, ?_⟩
    · unfold f_X10_chained f_X5_inChain
      simp only [lies0, in0, wdL, side0, author0, minute0, year0, week0, cell0, mside0, mminute0, myear0, mweek0, mship0, mtown0, ship0, town0, law0, mcell0, gF, ltI, leI, Int32.reduceToInt, Int64.reduceToInt, h1, e1, ek]
      rw [if_neg (by omega), if_neg (by omega), rdC_31 (by omega)]
      rfl
    · unfold f_X11_chained
      simp only [lies0, in0, wdL, side0, author0, minute0, year0, week0, cell0, mside0, mminute0, myear0, mweek0, mship0, mtown0, ship0, town0, law0, mcell0, gF, ltI, leI, Int32.reduceToInt, Int64.reduceToInt, h2, e2, ek]
      rw [if_neg (by omega), rdM_12 (by omega), h3 k (by omega)]
      rfl
  · refine ⟨-1, ?_, ?_⟩
    · unfold f_X10_chained f_X5_inChain f_X5_inChain_21
      simp only [lies0, in0, wdL, side0, author0, minute0, year0, week0, cell0, mside0, mminute0, myear0, mweek0, mship0, mtown0, ship0, town0, law0, mcell0, gF, ltI, leI, Int32.reduceToInt, Int64.reduceToInt, h1, e1]
      (repeat' split) <;> first | rfl | (exfalso; omega)
    · unfold f_X11_chained
      simp only [lies0, in0, wdL, side0, author0, minute0, year0, week0, cell0, mside0, mminute0, myear0, mweek0, mship0, mtown0, ship0, town0, law0, mcell0, gF, ltI, leI, Int32.reduceToInt, Int64.reduceToInt, h2, e2]
      (repeat' split) <;> first | rfl | (exfalso; omega)
