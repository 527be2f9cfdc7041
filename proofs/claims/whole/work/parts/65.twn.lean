/-! towns -/
def bz (A F T : Nat → Int32) (t w : Nat) : Nat → Bool
  | 0 => false
  | k + 1 => bz A F T t w k || (decide (A k = nI t) && decide ((F k).toInt ≤ w ∧ (w : Int) ≤ (T k).toInt))
def ls (z : Nat → Bool) (c : Nat) : Nat → Nat
  | 0 => 0
  | w + 1 => ls z c w + (if z w then c else 0)
def gw (z : Nat → Bool) (c p w : Nat) : Bool := decide (0 < ls z c (w + 1) ∧ p ≤ ls z c (w + 1))
def go (p : Nat → Bool) : Nat → Nat → Nat
  | 0, w => w
  | k + 1, w => if p w then w else go p k (w + 1)
def wI (x : Nat) : Int32 := if x < 100 then nI x else -2
theorem bz_congr {A F T A' F' T' : Nat → Int32} {t w : Nat} (n : Nat) (h : ∀ k, k < n → A k = A' k ∧ F k = F' k ∧ T k = T' k) : bz A F T t w n = bz A' F' T' t w n := by
  induction n with
  | zero => rfl
  | succ n ih =>
    obtain ⟨h1, h2, h3⟩ := h n (by omega)
    show (bz A F T t w n || _) = (bz A' F' T' t w n || _)
    rw [ih (fun k hk => h k (by omega)), h1, h2, h3]
theorem ls_le (z : Nat → Bool) {c : Nat} (hc : c ≤ 99999) (w : Nat) : ls z c w ≤ 99999 * w := by
  induction w with
  | zero => exact Nat.zero_le _
  | succ w ih =>
    show ls z c w + _ ≤ _
    split <;> omega
theorem ls_mono (z : Nat → Bool) (c : Nat) {w v : Nat} (h : w ≤ v) : ls z c w ≤ ls z c v := by
  induction v with
  | zero => rw [show w = 0 by omega]; exact Nat.le_refl _
  | succ v ih =>
    by_cases e : w = v + 1
    · subst e; exact Nat.le_refl _
    · exact Nat.le_trans (ih (by omega)) (Nat.le_add_right _ _)
theorem gw_mono {z : Nat → Bool} {c p w v : Nat} (h : w ≤ v) (hg : gw z c p w = true) : gw z c p v = true := by
  unfold gw at *
  have := ls_mono z c (show w + 1 ≤ v + 1 by omega)
  have := of_decide_eq_true hg
  exact decide_eq_true (by omega)
theorem go_spec (p : Nat → Bool) : ∀ (k w : Nat), w ≤ go p k w ∧ go p k w ≤ w + k ∧ (∀ v, w ≤ v → v < go p k w → p v = false) ∧ (go p k w < w + k → p (go p k w) = true) := by
  intro k
  induction k with
  | zero => intro w; exact ⟨Nat.le_refl _, Nat.le_refl _, fun v h1 h2 => absurd h2 (by show ¬ v < w; omega), fun h => absurd h (by show ¬ w < w + 0; omega)⟩
  | succ k ih =>
    intro w
    by_cases e : p w = true
    · have hg : go p (k + 1) w = w := if_pos e
      rw [hg]
      exact ⟨Nat.le_refl _, by omega, fun v h1 h2 => absurd h2 (by omega), fun _ => e⟩
    · have hg : go p (k + 1) w = go p k (w + 1) := if_neg e
      obtain ⟨h1, h2, h3, h4⟩ := ih (w + 1)
      rw [hg]
      refine ⟨by omega, by omega, fun v g1 g2 => ?_, fun h => h4 (by omega)⟩
      by_cases c : v = w
      · subst c; exact Bool.eq_false_iff.mpr e
      · exact h3 v (by omega) g2
/-- the first week of a thing that stays -/
theorem go_le {p : Nat → Bool} (hp : ∀ w v, w ≤ v → p w = true → p v = true) {v : Nat} (hv : v < 100) : (go p 100 0 ≤ v) = (p v = true) := by
  obtain ⟨h1, h2, h3, h4⟩ := go_spec p 100 0
  apply propext
  constructor
  · intro h; exact hp _ _ h (h4 (by omega))
  · intro h
    apply Nat.le_of_not_lt
    intro c
    have := h3 v (by omega) c
    rw [h] at this
    cases this
def M_twn (σ τ : St) : Prop := (∃ n, n ≤ 8 ∧ σ.1 804 = nI n ∧ τ.1 71 = nI n) ∧ (σ.2.1 58 = τ.2.1 48 ∧ σ.2.1 59 = τ.2.1 49 ∧ σ.2.1 60 = τ.2.1 50 ∧ σ.2.1 61 = τ.2.1 51) ∧ (Bn 9999 (σ.2.1 59) ∧ Bn 9999999 (σ.2.1 60) ∧ Bn 99999 (σ.2.1 61)) ∧ ∃ b, b ≤ 20 ∧ σ.1 806 = nI b ∧ τ.1 76 = nI b ∧ ∀ t w, t < 8 → w < 100 → σ.2.1 62 (100 * t + w) = if bz (τ.2.1 52) (τ.2.1 53) (τ.2.1 54) t w b = true then 1 else 0
theorem o_town (x y z w : Int32) {σ τ : St} (h : M_twn σ τ) : Op (f_X10_town x y z w σ) (f_X11_town x y z w τ) M_twn ([804], [58, 59, 60, 61], []) ([71], [48, 49, 50, 51], []) σ τ := by
  obtain ⟨⟨n, hn, h1, h2⟩, ⟨a1, a2, a3, a4⟩, ⟨b1, b2, b3⟩, hb⟩ := id h
  have e1 := nI_toInt (show n < 2 ^ 31 by omega)
  by_cases hg : n < 8 ∧ (0 ≤ x.toInt ∧ x.toInt ≤ 1) ∧ (0 ≤ y.toInt ∧ y.toInt ≤ 9999) ∧ (0 ≤ z.toInt ∧ z.toInt ≤ 9999999) ∧ (0 ≤ w.toInt ∧ w.toInt ≤ 99999)
  · obtain ⟨g0, g1, g2, g3, g4⟩ := hg
    obtain ⟨iy, hy, rfl⟩ := nI_btw (n := 9999) g2.1 g2.2
    obtain ⟨iz, hz, rfl⟩ := nI_btw (n := 9999999) g3.1 g3.2
    obtain ⟨iw, hw, rfl⟩ := nI_btw (n := 99999) g4.1 g4.2
    have ey := nI_toInt (show iy < 2 ^ 31 by omega)
    have ez := nI_toInt (show iz < 2 ^ 31 by omega)
    have ew := nI_toInt (show iw < 2 ^ 31 by omega)
    refine ⟨nI n, sF (sA (sA (sA (sA σ 58 n x) 59 n (nI iy)) 60 n (nI iz)) 61 n (nI iw)) 804 (nI (n + 1)), sF (sA (sA (sA (sA τ 48 n x) 49 n (nI iy)) 50 n (nI iz)) 51 n (nI iw)) 71 (nI (n + 1)), ?_, ?_, ⟨⟨n + 1, g0, rfl, rfl⟩, ⟨congrArg (upd · n x) a1, congrArg (upd · n (nI iy)) a2, congrArg (upd · n (nI iz)) a3, congrArg (upd · n (nI iw)) a4⟩, ⟨b1.upd n hy, b2.upd n hz, b3.upd n hw⟩, hb⟩, ((((Fr.rf.wA (by decide)).wA (by decide)).wA (by decide)).wA (by decide)).wF (by decide), ((((Fr.rf.wA (by decide)).wA (by decide)).wA (by decide)).wA (by decide)).wF (by decide)⟩
    · unfold f_X10_town f_X9_add
      simp only [lies0, in0, wdL, side0, author0, minute0, year0, week0, cell0, mside0, mminute0, myear0, mweek0, mship0, mtown0, ship0, town0, law0, mcell0, gF, ltI, leI, Int32.reduceToInt, Int64.reduceToInt, ey, ez, ew, h1, e1]
      rw [if_neg (by omega), if_neg (by omega), if_neg (by omega), if_neg (by omega), if_pos (by omega)]
      simp only [bS, bndE, gF, sA1, sL1, stA1, stL1, sF1, sA2, sL2, stA2, stL2, sF2, sA3, sL3, stA3, stL3, sF3, Nat.reduceEqDiff, Nat.reduceLT, reduceIte, rlC_11, wlC_11, rlC_12, wlC_12, rdC_13, wrC_13, rdC_14, wrC_14, rdC_15, wrC_15, rdC_16, wrC_16, rdC_17, wrC_17, rdC_18, wrC_18, rdC_19, wrC_19, rdC_20, wrC_20, rdC_21, wrC_21, rdC_22, wrC_22, rdC_23, wrC_23, rdC_24, wrC_24, rdC_25, wrC_25, rdC_26, wrC_26, rdC_27, wrC_27, rdC_28, wrC_28, rdC_29, wrC_29, rdC_30, wrC_30, rdC_31, wrC_31, rdC_32, wrC_32, rdC_33, wrC_33, rdC_34, wrC_34, rdC_35, wrC_35, rdC_36, wrC_36, rdC_38, wrC_38, rdC_39, wrC_39, rdC_40, wrC_40, rdC_41, wrC_41, rdC_42, wrC_42, rdC_43, wrC_43, rlC_44, wlC_44, rdC_45, wrC_45, rdC_46, wrC_46, rdC_47, wrC_47, rdC_48, wrC_48, rdC_49, wrC_49, rdC_50, wrC_50, rdC_51, wrC_51, rdC_52, wrC_52, rdC_53, wrC_53, rdC_54, wrC_54, rdC_55, wrC_55, rlC_56, wlC_56, rlC_57, wlC_57, rdC_58, wrC_58, rdC_59, wrC_59, rdC_60, wrC_60, rdC_61, wrC_61, rdC_62, wrC_62, rdC_63, wrC_63, rdC_64, wrC_64, rdC_65, wrC_65, rdC_66, wrC_66, rdC_67, wrC_67, rlC_68, wlC_68, rdC_69, wrC_69, rdC_70, wrC_70, h1, g0, nI_1, nI_pred]
    · unfold f_X11_town
      simp only [lies0, in0, wdL, side0, author0, minute0, year0, week0, cell0, mside0, mminute0, myear0, mweek0, mship0, mtown0, ship0, town0, law0, mcell0, gF, ltI, leI, Int32.reduceToInt, Int64.reduceToInt, ey, ez, ew, h2, e1]
      rw [if_neg (by simp only [eqI, e1, Int32.reduceToInt]; omega), if_neg (by omega), if_neg (by omega), if_neg (by omega), if_neg (by omega)]
      simp only [bS, bndE, gF, sA1, sL1, stA1, stL1, sF1, sA2, sL2, stA2, stL2, sF2, sA3, sL3, stA3, stL3, sF3, Nat.reduceEqDiff, Nat.reduceLT, reduceIte, rdM_1, wrM_1, rdM_2, wrM_2, rdM_3, wrM_3, rdM_4, wrM_4, rdM_5, wrM_5, rdM_6, wrM_6, rdM_7, wrM_7, rdM_8, wrM_8, rdM_9, wrM_9, rdM_10, wrM_10, rdM_11, wrM_11, rdM_12, wrM_12, rdM_13, wrM_13, rdM_14, wrM_14, rdM_15, wrM_15, rdM_16, wrM_16, rdM_17, wrM_17, rdM_18, wrM_18, rdM_19, wrM_19, rdM_20, wrM_20, rdM_21, wrM_21, rdM_22, wrM_22, rdM_23, wrM_23, rdM_24, wrM_24, rdM_25, wrM_25, rdM_26, wrM_26, rdM_27, wrM_27, rdM_28, wrM_28, rdM_29, wrM_29, rdM_30, wrM_30, rlM_31, wlM_31, rlM_32, wlM_32, rlM_33, wlM_33, rdM_34, wrM_34, rdM_35, wrM_35, rdM_36, wrM_36, rdM_37, wrM_37, rdM_38, wrM_38, rdM_39, wrM_39, rdM_40, wrM_40, rdM_41, wrM_41, rdM_42, wrM_42, rdM_43, wrM_43, rdM_44, wrM_44, rdM_45, wrM_45, rdM_46, wrM_46, rlM_47, wlM_47, rdM_48, wrM_48, rdM_49, wrM_49, rdM_50, wrM_50, rdM_51, wrM_51, rdM_52, wrM_52, rdM_53, wrM_53, rdM_54, wrM_54, rdM_55, wrM_55, rdM_56, wrM_56, rdM_57, wrM_57, rdM_58, wrM_58, rdM_59, wrM_59, rlM_60, wlM_60, rdM_61, wrM_61, rdM_62, wrM_62, h2, g0, nI_1, nI_pred]
  · refine Op.no (-1) ?_ ?_ h
    · unfold f_X10_town f_X9_add
      simp only [lies0, in0, wdL, side0, author0, minute0, year0, week0, cell0, mside0, mminute0, myear0, mweek0, mship0, mtown0, ship0, town0, law0, mcell0, gF, ltI, leI, Int32.reduceToInt, Int64.reduceToInt, h1, e1]
      (repeat' split) <;> first | rfl | (exfalso; omega)
    · unfold f_X11_town
      simp only [lies0, in0, wdL, side0, author0, minute0, year0, week0, cell0, mside0, mminute0, myear0, mweek0, mship0, mtown0, ship0, town0, law0, mcell0, gF, ltI, leI, Int32.reduceToInt, Int64.reduceToInt, h2, e1]
      simp only [eqI (nI n), e1, Int32.reduceToInt]
      (repeat' split) <;> first | rfl | (exfalso; omega)
theorem addBar_loop {σ : St} {t c b : Nat} (ht : t < 8) (hc : c < 100) (hb : σ.1 806 = nI b) : ∀ (k w n : Nat) (A : Nat → Int32), w + k = c + 1 → k < n → ∃ A', f_X9_addBar_36 (nI t) (nI c) n (nI w) (stA σ 62 A) = some (nI (b + 1), sF (stA σ 62 A') 806 (nI (b + 1))) ∧ ∀ i, A' i = if 100 * t + w ≤ i ∧ i ≤ 100 * t + c then 1 else A i := by
  intro k
  induction k with
  | zero =>
    intro w n A h1 h2
    obtain ⟨n, rfl⟩ : ∃ q, n = q + 1 := ⟨n - 1, by omega⟩
    refine ⟨A, ?_, fun i => by rw [if_neg (by omega)]⟩
    unfold f_X9_addBar_36 f_X9_addBar_61
    have e : gF (stA σ 62 A) 806 = nI b := hb
    rw [if_pos (nI_lt (by omega) (by omega)), e, nI_1]
    rfl
  | succ k ih =>
    intro w n A h1 h2
    obtain ⟨n, rfl⟩ : ∃ q, n = q + 1 := ⟨n - 1, by omega⟩
    have i1 : nI t * 100 + nI w = nI (100 * t + w) := ixd 100 t w
    obtain ⟨A', q1, q2⟩ := ih (w + 1) n (upd A (100 * t + w) 1) (by omega) (by omega)
    refine ⟨A', ?_, fun i => ?_⟩
    · unfold f_X9_addBar_36
      rw [if_neg (nI_nlt (by omega) (by omega)), i1, wrC_62 (by omega), bS, bndE, nI_1, sA_st, stA_at, stA_2]
      exact q1
    · rw [q2 i]
      by_cases c1 : 100 * t + (w + 1) ≤ i ∧ i ≤ 100 * t + c
      · rw [if_pos c1, if_pos (by omega)]
      · rw [if_neg c1]
        by_cases c2 : i = 100 * t + w
        · subst c2; rw [upd_at, if_pos (by omega)]
        · rw [upd_ne _ _ c2, if_neg (by omega)]
theorem o_bar (x y z : Int32) {σ τ : St} (h : M_twn σ τ) : Op (f_X10_bar x y z σ) (f_X11_bar x y z τ) M_twn ([806], [62], []) ([76], [52, 53, 54], []) σ τ := by
  obtain ⟨⟨n, hn, h1, h2⟩, aa, bb, ⟨b, hb, h3, h4, hz⟩⟩ := id h
  have e1 := nI_toInt (show n < 2 ^ 31 by omega)
  have e2 := nI_toInt (show b < 2 ^ 31 by omega)
  by_cases hg : b < 20 ∧ (0 ≤ x.toInt ∧ x.toInt < n) ∧ (0 ≤ y.toInt ∧ y.toInt ≤ z.toInt) ∧ (0 ≤ z.toInt ∧ z.toInt < 100)
  · obtain ⟨g0, g1, g2, g3⟩ := hg
    obtain ⟨ix, hx, rfl⟩ := nI_btw (n := 7) g1.1 (by omega)
    obtain ⟨iy, hy, rfl⟩ := nI_btw (n := 99) g2.1 (by omega)
    obtain ⟨iz, hz', rfl⟩ := nI_btw (n := 99) g3.1 (by omega)
    have ex := nI_toInt (show ix < 2 ^ 31 by omega)
    have ey := nI_toInt (show iy < 2 ^ 31 by omega)
    have ez := nI_toInt (show iz < 2 ^ 31 by omega)
    rw [ex] at g1
    rw [ey, ez] at g2
    obtain ⟨A', q1, q2⟩ := addBar_loop (σ := σ) (show ix < 8 by omega) (show iz < 100 by omega) h3 (iz + 1 - iy) iy FU (σ.2.1 62) (by omega) (by unfold FU; omega)
    rw [stA_same] at q1
    refine ⟨nI (b + 1), sF (stA σ 62 A') 806 (nI (b + 1)), sF (sA (sA (sA τ 52 b (nI ix)) 53 b (nI iy)) 54 b (nI iz)) 76 (nI (b + 1)), ?_, ?_, ⟨⟨n, hn, h1, h2⟩, aa, bb, ⟨b + 1, g0, rfl, rfl, fun t w ht hw => ?_⟩⟩, (Fr.rf.wSA (by decide)).wF (by decide), (((Fr.rf.wA (by decide)).wA (by decide)).wA (by decide)).wF (by decide)⟩
    · unfold f_X10_bar f_X9_addBar
      simp only [lies0, in0, wdL, side0, author0, minute0, year0, week0, cell0, mside0, mminute0, myear0, mweek0, mship0, mtown0, ship0, town0, law0, mcell0, gF, ltI, leI, Int32.reduceToInt, Int64.reduceToInt, ex, ey, ez, h1, h3, e1, e2]
      rw [if_neg (by omega), if_neg (by omega), if_neg (by omega), if_pos (by omega), if_neg (by omega), if_neg (by omega), if_neg (by omega), if_neg (by omega), q1]
      rfl
    · unfold f_X11_bar
      simp only [lies0, in0, wdL, side0, author0, minute0, year0, week0, cell0, mside0, mminute0, myear0, mweek0, mship0, mtown0, ship0, town0, law0, mcell0, gF, ltI, leI, Int32.reduceToInt, Int64.reduceToInt, ex, ey, ez, h2, h4, e1, e2]
      rw [if_neg (by simp only [eqI, e2, Int32.reduceToInt]; omega), if_neg (by omega), if_neg (by omega), if_neg (by omega)]
      simp only [bS, bndE, gF, sA1, sL1, stA1, stL1, sF1, sA2, sL2, stA2, stL2, sF2, sA3, sL3, stA3, stL3, sF3, Nat.reduceEqDiff, Nat.reduceLT, reduceIte, rdM_1, wrM_1, rdM_2, wrM_2, rdM_3, wrM_3, rdM_4, wrM_4, rdM_5, wrM_5, rdM_6, wrM_6, rdM_7, wrM_7, rdM_8, wrM_8, rdM_9, wrM_9, rdM_10, wrM_10, rdM_11, wrM_11, rdM_12, wrM_12, rdM_13, wrM_13, rdM_14, wrM_14, rdM_15, wrM_15, rdM_16, wrM_16, rdM_17, wrM_17, rdM_18, wrM_18, rdM_19, wrM_19, rdM_20, wrM_20, rdM_21, wrM_21, rdM_22, wrM_22, rdM_23, wrM_23, rdM_24, wrM_24, rdM_25, wrM_25, rdM_26, wrM_26, rdM_27, wrM_27, rdM_28, wrM_28, rdM_29, wrM_29, rdM_30, wrM_30, rlM_31, wlM_31, rlM_32, wlM_32, rlM_33, wlM_33, rdM_34, wrM_34, rdM_35, wrM_35, rdM_36, wrM_36, rdM_37, wrM_37, rdM_38, wrM_38, rdM_39, wrM_39, rdM_40, wrM_40, rdM_41, wrM_41, rdM_42, wrM_42, rdM_43, wrM_43, rdM_44, wrM_44, rdM_45, wrM_45, rdM_46, wrM_46, rlM_47, wlM_47, rdM_48, wrM_48, rdM_49, wrM_49, rdM_50, wrM_50, rdM_51, wrM_51, rdM_52, wrM_52, rdM_53, wrM_53, rdM_54, wrM_54, rdM_55, wrM_55, rdM_56, wrM_56, rdM_57, wrM_57, rdM_58, wrM_58, rdM_59, wrM_59, rlM_60, wlM_60, rdM_61, wrM_61, rdM_62, wrM_62, h4, g0, nI_1]
    · show A' (100 * t + w) = if (bz (upd (τ.2.1 52) b (nI ix)) (upd (τ.2.1 53) b (nI iy)) (upd (τ.2.1 54) b (nI iz)) t w b || (decide (upd (τ.2.1 52) b (nI ix) b = nI t) && decide ((upd (τ.2.1 53) b (nI iy) b).toInt ≤ w ∧ (w : Int) ≤ (upd (τ.2.1 54) b (nI iz) b).toInt))) = true then 1 else 0
      rw [q2, upd_at, upd_at, upd_at, ey, ez, bz_congr (A' := τ.2.1 52) (F' := τ.2.1 53) (T' := τ.2.1 54) b (fun k hk => ⟨upd_ne _ _ (by omega), upd_ne _ _ (by omega), upd_ne _ _ (by omega)⟩), hz t w ht hw]
      have et : (nI ix = nI t) = (ix = t) := nI_eqE (by omega) (by omega)
      by_cases c1 : 100 * ix + iy ≤ 100 * t + w ∧ 100 * t + w ≤ 100 * ix + iz
      · have c2 : ix = t := by omega
        subst c2
        have c3 : (iy : Int) ≤ w ∧ (w : Int) ≤ iz := by omega
        rw [if_pos c1, decide_eq_true (rfl : nI ix = nI ix), decide_eq_true c3]
        simp
      · rw [if_neg c1]
        by_cases c2 : ix = t
        · subst c2
          have c3 : ¬ ((iy : Int) ≤ w ∧ (w : Int) ≤ iz) := by omega
          rw [decide_eq_false c3, Bool.and_false, Bool.or_false]
        · rw [decide_eq_false (show ¬ nI ix = nI t by rw [et]; exact c2), Bool.false_and, Bool.or_false]
  · refine Op.no (-1) ?_ ?_ h
    · unfold f_X10_bar f_X9_addBar
      simp only [lies0, in0, wdL, side0, author0, minute0, year0, week0, cell0, mside0, mminute0, myear0, mweek0, mship0, mtown0, ship0, town0, law0, mcell0, gF, ltI, leI, Int32.reduceToInt, Int64.reduceToInt, h1, h3, e1, e2]
      (repeat' split) <;> first | rfl | (exfalso; omega)
    · unfold f_X11_bar
      simp only [lies0, in0, wdL, side0, author0, minute0, year0, week0, cell0, mside0, mminute0, myear0, mweek0, mship0, mtown0, ship0, town0, law0, mcell0, gF, ltI, leI, Int32.reduceToInt, Int64.reduceToInt, h2, h4, e1, e2]
      simp only [eqI (nI b), e2, Int32.reduceToInt]
      (repeat' split) <;> first | rfl | (exfalso; omega)
section TW
variable {σ τ : St} {t c p b : Nat} {z : Nat → Bool}
theorem lostC (ht : t < 8) (hc : c ≤ 99999) (hcc : σ.2.1 61 t = nI c) (hz : ∀ w, w < 100 → σ.2.1 62 (100 * t + w) = if z w = true then 1 else 0) {W : Nat} (hW : W < 100) : ∀ (k w n : Nat), w + k = W + 1 → k < n → f_X9_lostBy_15 (nI t) (nI W) σ n (nI (ls z c w)) (nI w) = some (nI (ls z c (W + 1))) := by
  intro k
  induction k with
  | zero =>
    intro w n h1 h2
    obtain ⟨n, rfl⟩ : ∃ q, n = q + 1 := ⟨n - 1, by omega⟩
    have : w = W + 1 := by omega
    subst this
    unfold f_X9_lostBy_15
    rw [if_pos (nI_lt (by omega) (by omega))]
  | succ k ih =>
    intro w n h1 h2
    obtain ⟨n, rfl⟩ : ∃ q, n = q + 1 := ⟨n - 1, by omega⟩
    have i1 : nI t * 100 + nI w = nI (100 * t + w) := ixd 100 t w
    have h100 : ¬ (100 : Int32) ≤ nI w := nI_ge (b := 100) (by omega) (by decide)
    have := ih (w + 1) n (by omega) (by omega)
    unfold f_X9_lostBy_15 f_X9_lostBy_54
    rw [if_neg (nI_nlt (by omega) (by omega)), if_neg h100, i1, rdC_62 (by omega), bS, hz w (by omega)]
    by_cases d : z w = true
    · rw [if_pos d, if_neg (by decide), rdC_61 ht, bS, hcc]
      simp only [bndE]
      rw [nI_add, nI_1]
      have e : ls z c (w + 1) = ls z c w + c := by show ls z c w + _ = _; rw [if_pos d]
      rw [← e]
      exact this
    · rw [if_neg d, if_pos rfl]
      simp only [bndE]
      rw [nI_1]
      have e : nI (ls z c w) + 0 = nI (ls z c (w + 1)) := by rw [show ls z c (w + 1) = ls z c w + 0 by (show ls z c w + _ = _; rw [if_neg d])]; exact nI_add _ 0
      rw [e]
      exact this
theorem weekC (ht : t < 8) (hc : c ≤ 99999) (hp : p ≤ 9999999) (hcc : σ.2.1 61 t = nI c) (hpp : σ.2.1 60 t = nI p) (hz : ∀ w, w < 100 → σ.2.1 62 (100 * t + w) = if z w = true then 1 else 0) : ∀ (k w n : Nat), w + k = 100 → k < n → f_X9_weekOf_14 (nI t) σ n (nI (ls z c w)) (nI w) = some (wI (go (gw z c p) k w)) := by
  intro k
  induction k with
  | zero =>
    intro w n h1 h2
    obtain ⟨n, rfl⟩ : ∃ q, n = q + 1 := ⟨n - 1, by omega⟩
    have : w = 100 := by omega
    subst this
    unfold f_X9_weekOf_14
    rw [if_pos (show (100 : Int32) ≤ nI 100 from nI_le (a := 100) (Nat.le_refl _) (by decide))]
    rfl
  | succ k ih =>
    intro w n h1 h2
    obtain ⟨n, rfl⟩ : ∃ q, n = q + 1 := ⟨n - 1, by omega⟩
    have i1 : nI t * 100 + nI w = nI (100 * t + w) := ixd 100 t w
    have h100 : ¬ (100 : Int32) ≤ nI w := nI_ge (b := 100) (by omega) (by decide)
    have hls := ls_le z hc (w + 1)
    have key : ∀ v : Int32, nI (ls z c w) + v = nI (ls z c (w + 1)) → f_X9_weekOf_45 (nI t) (nI w) (nI (ls z c w)) v σ (f_X9_weekOf_14 (nI t) σ n) = some (wI (go (gw z c p) (k + 1) w)) := by
      intro v hv
      unfold f_X9_weekOf_45 f_X9_weekOf_63
      rw [hv]
      simp only [bndE]
      have hgo : go (gw z c p) (k + 1) w = if gw z c p w = true then w else go (gw z c p) k (w + 1) := rfl
      rw [nI_1, ih (w + 1) n (by omega) (by omega), hgo]
      by_cases d : ls z c (w + 1) = 0
      · rw [if_pos (by rw [nI_le0 (by omega)]; exact d), if_neg (by unfold gw; rw [decide_eq_true_iff]; omega)]
      · rw [if_neg (by rw [nI_le0 (by omega)]; exact d), rdC_60 ht, bS, hpp]
        by_cases d2 : ls z c (w + 1) < p
        · rw [if_pos (nI_lt d2 (by omega)), if_neg (by unfold gw; rw [decide_eq_true_iff]; omega)]
        · rw [if_neg (nI_nlt (by omega) (by omega)), if_pos (by unfold gw; rw [decide_eq_true_iff]; omega)]
          unfold wI
          rw [if_pos (by omega)]
    unfold f_X9_weekOf_14
    rw [if_neg h100, i1, rdC_62 (by omega), bS, hz w (by omega)]
    by_cases d : z w = true
    · rw [if_pos d, if_neg (by decide), rdC_61 ht, bS, hcc]
      refine key _ ?_
      rw [nI_add]
      show _ = nI (ls z c w + _)
      rw [if_pos d]
    · rw [if_neg d, if_pos rfl]
      refine key _ ?_
      show _ = nI (ls z c w + _)
      rw [if_neg d]
      exact nI_add _ 0
theorem barM (hb : τ.1 76 = nI b) (hb20 : b ≤ 20) {x2 x3 : Int32} {w : Nat} (hw : w < 100) {k5 : Int32 → Int32 → Option Int32} : ∀ (k i n : Nat), i + k = b → k < n → f_X11_lostBy_17 (nI t) x2 x3 (nI w) τ k5 n (if bz (τ.2.1 52) (τ.2.1 53) (τ.2.1 54) t w i = true then 1 else 0) (nI i) = f_X11_lostBy_80 (nI t) x2 x3 (nI w) (if bz (τ.2.1 52) (τ.2.1 53) (τ.2.1 54) t w b = true then 1 else 0) τ k5 := by
  have ew := nI_toInt (show w < 2 ^ 31 by omega)
  intro k
  induction k with
  | zero =>
    intro i n h1 h2
    obtain ⟨n, rfl⟩ : ∃ q, n = q + 1 := ⟨n - 1, by omega⟩
    have : i = b := by omega
    subst this
    unfold f_X11_lostBy_17
    rw [if_pos (by unfold gF; rw [hb]; exact nI_le (Nat.le_refl _) (by omega))]
  | succ k ih =>
    intro i n h1 h2
    obtain ⟨n, rfl⟩ : ∃ q, n = q + 1 := ⟨n - 1, by omega⟩
    have := ih (i + 1) n (by omega) (by omega)
    have hs : bz (τ.2.1 52) (τ.2.1 53) (τ.2.1 54) t w (i + 1) = (bz (τ.2.1 52) (τ.2.1 53) (τ.2.1 54) t w i || (decide (τ.2.1 52 i = nI t) && decide ((τ.2.1 53 i).toInt ≤ w ∧ (w : Int) ≤ (τ.2.1 54 i).toInt))) := rfl
    unfold f_X11_lostBy_17 f_X11_lostBy_67 f_X11_lostBy_71 f_X11_lostBy_72
    simp only [bndE]
    rw [if_neg (by unfold gF; rw [hb]; exact nI_ge (by omega) (by omega)), nI_1]
    by_cases d : bz (τ.2.1 52) (τ.2.1 53) (τ.2.1 54) t w i = true
    · rw [if_pos d, if_neg (by decide)]
      rw [hs, d, Bool.true_or, if_pos rfl] at this
      exact this
    · rw [if_neg d, if_pos rfl, rdM_52 (by omega), bS]
      have d' := Bool.eq_false_iff.mpr d
      by_cases d2 : τ.2.1 52 i = nI t
      · rw [if_pos d2, rdM_53 (by omega), bS, rdM_54 (by omega), bS]
        simp only [in0, wdL, ew]
        by_cases d3 : (τ.2.1 53 i).toInt ≤ w ∧ (w : Int) ≤ (τ.2.1 54 i).toInt
        · rw [if_neg (not_not_intro d3)]
          rw [hs, d', decide_eq_true d2, decide_eq_true d3, Bool.false_or, Bool.true_and, if_pos rfl] at this
          exact this
        · rw [if_pos d3]
          rw [hs, d', decide_eq_true d2, decide_eq_false d3, Bool.false_or, Bool.and_false, if_neg (by decide)] at this
          exact this
      · rw [if_neg d2]
        rw [hs, d', decide_eq_false d2, Bool.false_or, Bool.false_and, if_neg (by decide)] at this
        exact this
theorem lostM (ht : t < 8) (hb : τ.1 76 = nI b) (hb20 : b ≤ 20) (hcc : τ.2.1 51 t = nI c) {W : Nat} (hW : W < 100) : ∀ (k w n : Nat), w + k = W + 1 → k < n → f_X11_lostBy_5 (nI t) (nI W) τ n (nI (ls (fun w => bz (τ.2.1 52) (τ.2.1 53) (τ.2.1 54) t w b) c w)) (nI w) = some (nI (ls (fun w => bz (τ.2.1 52) (τ.2.1 53) (τ.2.1 54) t w b) c (W + 1))) := by
  intro k
  induction k with
  | zero =>
    intro w n h1 h2
    obtain ⟨n, rfl⟩ : ∃ q, n = q + 1 := ⟨n - 1, by omega⟩
    have : w = W + 1 := by omega
    subst this
    unfold f_X11_lostBy_5
    rw [if_pos (nI_lt (by omega) (by omega))]
  | succ k ih =>
    intro w n h1 h2
    obtain ⟨n, rfl⟩ : ∃ q, n = q + 1 := ⟨n - 1, by omega⟩
    have := ih (w + 1) n (by omega) (by omega)
    have hm := barM (t := t) hb hb20 (x2 := nI W) (x3 := nI (ls (fun w => bz (τ.2.1 52) (τ.2.1 53) (τ.2.1 54) t w b) c w)) (w := w) (by omega) (k5 := f_X11_lostBy_5 (nI t) (nI W) τ n) b 0 FU (by omega) (by unfold FU; omega)
    unfold f_X11_lostBy_5
    rw [if_neg (nI_nlt (by omega) (by omega)), show f_X11_lostBy_17 (nI t) (nI W) (nI (ls (fun w => bz (τ.2.1 52) (τ.2.1 53) (τ.2.1 54) t w b) c w)) (nI w) τ (f_X11_lostBy_5 (nI t) (nI W) τ n) FU 0 0 = _ from hm]
    unfold f_X11_lostBy_80 f_X11_lostBy_96
    simp only [bndE]
    rw [nI_1]
    have hs : ls (fun w => bz (τ.2.1 52) (τ.2.1 53) (τ.2.1 54) t w b) c (w + 1) = ls (fun w => bz (τ.2.1 52) (τ.2.1 53) (τ.2.1 54) t w b) c w + (if bz (τ.2.1 52) (τ.2.1 53) (τ.2.1 54) t w b = true then c else 0) := rfl
    by_cases d : bz (τ.2.1 52) (τ.2.1 53) (τ.2.1 54) t w b = true
    · rw [if_pos d] at hs
      rw [if_pos d, if_neg (by decide), rdM_51 ht, bS, hcc, nI_add, ← hs]
      exact this
    · rw [if_neg d] at hs
      rw [if_neg d, if_pos rfl]
      have e : nI (ls (fun w => bz (τ.2.1 52) (τ.2.1 53) (τ.2.1 54) t w b) c w) + 0 = nI (ls (fun w => bz (τ.2.1 52) (τ.2.1 53) (τ.2.1 54) t w b) c (w + 1)) := by rw [hs]; exact nI_add _ 0
      rw [e]
      exact this
theorem gaveM (ht : t < 8) (hb : τ.1 76 = nI b) (hb20 : b ≤ 20) (hcc : τ.2.1 51 t = nI c) (hc : c ≤ 99999) (hpp : τ.2.1 50 t = nI p) (hp : p ≤ 9999999) {W : Nat} (hW : W < 100) : f_X11_gaveWay (nI t) (nI W) τ = some (if gw (fun w => bz (τ.2.1 52) (τ.2.1 53) (τ.2.1 54) t w b) c p W = true then 1 else 0) := by
  have hl : f_X11_lostBy (nI t) (nI W) τ = _ := lostM ht hb hb20 hcc hW (W + 1) 0 FU (by omega) (by unfold FU; omega)
  have hle := ls_le (fun w => bz (τ.2.1 52) (τ.2.1 53) (τ.2.1 54) t w b) hc (W + 1)
  unfold f_X11_gaveWay f_X11_gaveWay_25
  rw [hl, bS]
  by_cases d : ls (fun w => bz (τ.2.1 52) (τ.2.1 53) (τ.2.1 54) t w b) c (W + 1) = 0
  · rw [if_pos (by rw [nI_le0 (by omega)]; exact d), if_neg (by unfold gw; rw [decide_eq_true_iff]; omega)]
  · rw [if_neg (by rw [nI_le0 (by omega)]; exact d), rdM_50 ht, bS, hpp]
    by_cases d2 : ls (fun w => bz (τ.2.1 52) (τ.2.1 53) (τ.2.1 54) t w b) c (W + 1) < p
    · rw [if_pos (nI_lt d2 (by omega)), if_neg (by unfold gw; rw [decide_eq_true_iff]; omega)]
    · rw [if_neg (nI_nlt (by omega) (by omega)), if_pos (by unfold gw; rw [decide_eq_true_iff]; omega)]
theorem yieldsM (ht : t < 8) (hb : τ.1 76 = nI b) (hb20 : b ≤ 20) (hcc : τ.2.1 51 t = nI c) (hc : c ≤ 99999) (hpp : τ.2.1 50 t = nI p) (hp : p ≤ 9999999) : ∀ (k w n : Nat), w + k = 100 → k < n → f_X11_yields_12 (nI t) τ n (nI w) = some (wI (go (gw (fun w => bz (τ.2.1 52) (τ.2.1 53) (τ.2.1 54) t w b) c p) k w)) := by
  intro k
  induction k with
  | zero =>
    intro w n h1 h2
    obtain ⟨n, rfl⟩ : ∃ q, n = q + 1 := ⟨n - 1, by omega⟩
    have : w = 100 := by omega
    subst this
    unfold f_X11_yields_12
    rw [if_pos (show (100 : Int32) ≤ nI 100 from nI_le (a := 100) (Nat.le_refl _) (by decide))]
    rfl
  | succ k ih =>
    intro w n h1 h2
    obtain ⟨n, rfl⟩ : ∃ q, n = q + 1 := ⟨n - 1, by omega⟩
    have h100 : ¬ (100 : Int32) ≤ nI w := nI_ge (b := 100) (by omega) (by decide)
    have hgo : go (gw (fun w => bz (τ.2.1 52) (τ.2.1 53) (τ.2.1 54) t w b) c p) (k + 1) w = if gw (fun w => bz (τ.2.1 52) (τ.2.1 53) (τ.2.1 54) t w b) c p w = true then w else go (gw (fun w => bz (τ.2.1 52) (τ.2.1 53) (τ.2.1 54) t w b) c p) k (w + 1) := rfl
    unfold f_X11_yields_12
    rw [if_neg h100, gaveM ht hb hb20 hcc hc hpp hp (by omega), bS, bndE, nI_1, ih (w + 1) n (by omega) (by omega), hgo]
    by_cases d : gw (fun w => bz (τ.2.1 52) (τ.2.1 53) (τ.2.1 54) t w b) c p w = true
    · rw [if_pos d, if_pos d, if_neg (by decide)]
      unfold wI
      rw [if_pos (by omega)]
    · rw [if_neg d, if_neg d, if_pos rfl]
end TW
