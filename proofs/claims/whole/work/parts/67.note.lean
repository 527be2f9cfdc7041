/-! notes -/
def Bi (B : Int) (f : Nat → Int32) : Prop := ∀ i, -B ≤ (f i).toInt ∧ (f i).toInt ≤ B
theorem Bi.upd {B : Int} {f : Nat → Int32} (h : Bi B f) (i : Nat) {v : Int32} (hv : -B ≤ v.toInt ∧ v.toInt ≤ B) : Bi B (upd f i v) := by
  intro j
  by_cases e : j = i
  · subst e; rw [upd_at]; exact hv
  · rw [upd_ne _ _ e]; exact h j
def M_not (σ τ : St) : Prop := ∃ n, n ≤ 9 ∧ σ.1 902 = nI n ∧ τ.1 80 = nI n ∧ σ.2.1 63 = τ.2.1 55 ∧ σ.2.1 64 = τ.2.1 56 ∧ Bi 9999 (σ.2.1 63) ∧ Bi 9999 (σ.2.1 64)
theorem o_term (x y : Int32) {σ τ : St} (h : M_not σ τ) : Op (f_X10_term x y σ) (f_X11_term x y τ) M_not ([902], [63, 64], []) ([80], [55, 56], []) σ τ := by
  obtain ⟨n, hn, h1, h2, a1, a2, b1, b2⟩ := id h
  have e1 := nI_toInt (show n < 2 ^ 31 by omega)
  by_cases hg : n < 9 ∧ (-9999 ≤ x.toInt ∧ x.toInt ≤ 9999) ∧ (-9999 ≤ y.toInt ∧ y.toInt ≤ 9999)
  · obtain ⟨g0, g1, g2⟩ := hg
    refine ⟨nI n, sF (sA (sA σ 63 n x) 64 n y) 902 (nI (n + 1)), sF (sA (sA τ 55 n x) 56 n y) 80 (nI (n + 1)), ?_, ?_, ⟨n + 1, g0, rfl, rfl, congrArg (upd · n x) a1, congrArg (upd · n y) a2, b1.upd n g1, b2.upd n g2⟩, ((Fr.rf.wA (by decide)).wA (by decide)).wF (by decide), ((Fr.rf.wA (by decide)).wA (by decide)).wF (by decide)⟩
    · unfold f_X10_term f_X3_add
      simp only [lies0, in0, wdL, side0, author0, minute0, year0, week0, cell0, mside0, mminute0, myear0, mweek0, mship0, mtown0, ship0, town0, law0, mcell0, gF, ltI, leI, Int32.reduceToInt, Int64.reduceToInt, h1, e1]
      rw [if_neg (by omega), if_neg (by omega), if_pos (by omega)]
      simp only [bS, bndE, gF, sA1, sL1, stA1, stL1, sF1, sA2, sL2, stA2, stL2, sF2, sA3, sL3, stA3, stL3, sF3, Nat.reduceEqDiff, Nat.reduceLT, reduceIte, rlC_11, wlC_11, rlC_12, wlC_12, rdC_13, wrC_13, rdC_14, wrC_14, rdC_15, wrC_15, rdC_16, wrC_16, rdC_17, wrC_17, rdC_18, wrC_18, rdC_19, wrC_19, rdC_20, wrC_20, rdC_21, wrC_21, rdC_22, wrC_22, rdC_23, wrC_23, rdC_24, wrC_24, rdC_25, wrC_25, rdC_26, wrC_26, rdC_27, wrC_27, rdC_28, wrC_28, rdC_29, wrC_29, rdC_30, wrC_30, rdC_31, wrC_31, rdC_32, wrC_32, rdC_33, wrC_33, rdC_34, wrC_34, rdC_35, wrC_35, rdC_36, wrC_36, rdC_38, wrC_38, rdC_39, wrC_39, rdC_40, wrC_40, rdC_41, wrC_41, rdC_42, wrC_42, rdC_43, wrC_43, rlC_44, wlC_44, rdC_45, wrC_45, rdC_46, wrC_46, rdC_47, wrC_47, rdC_48, wrC_48, rdC_49, wrC_49, rdC_50, wrC_50, rdC_51, wrC_51, rdC_52, wrC_52, rdC_53, wrC_53, rdC_54, wrC_54, rdC_55, wrC_55, rlC_56, wlC_56, rlC_57, wlC_57, rdC_58, wrC_58, rdC_59, wrC_59, rdC_60, wrC_60, rdC_61, wrC_61, rdC_62, wrC_62, rdC_63, wrC_63, rdC_64, wrC_64, rdC_65, wrC_65, rdC_66, wrC_66, rdC_67, wrC_67, rlC_68, wlC_68, rdC_69, wrC_69, rdC_70, wrC_70, h1, g0, nI_1, nI_pred]
    · unfold f_X11_term
      simp only [lies0, in0, wdL, side0, author0, minute0, year0, week0, cell0, mside0, mminute0, myear0, mweek0, mship0, mtown0, ship0, town0, law0, mcell0, gF, ltI, leI, Int32.reduceToInt, Int64.reduceToInt, h2, e1]
      rw [if_neg (by simp only [eqI, e1, Int32.reduceToInt]; omega), if_neg (by omega), if_neg (by omega)]
      simp only [bS, bndE, gF, sA1, sL1, stA1, stL1, sF1, sA2, sL2, stA2, stL2, sF2, sA3, sL3, stA3, stL3, sF3, Nat.reduceEqDiff, Nat.reduceLT, reduceIte, rdM_1, wrM_1, rdM_2, wrM_2, rdM_3, wrM_3, rdM_4, wrM_4, rdM_5, wrM_5, rdM_6, wrM_6, rdM_7, wrM_7, rdM_8, wrM_8, rdM_9, wrM_9, rdM_10, wrM_10, rdM_11, wrM_11, rdM_12, wrM_12, rdM_13, wrM_13, rdM_14, wrM_14, rdM_15, wrM_15, rdM_16, wrM_16, rdM_17, wrM_17, rdM_18, wrM_18, rdM_19, wrM_19, rdM_20, wrM_20, rdM_21, wrM_21, rdM_22, wrM_22, rdM_23, wrM_23, rdM_24, wrM_24, rdM_25, wrM_25, rdM_26, wrM_26, rdM_27, wrM_27, rdM_28, wrM_28, rdM_29, wrM_29, rdM_30, wrM_30, rlM_31, wlM_31, rlM_32, wlM_32, rlM_33, wlM_33, rdM_34, wrM_34, rdM_35, wrM_35, rdM_36, wrM_36, rdM_37, wrM_37, rdM_38, wrM_38, rdM_39, wrM_39, rdM_40, wrM_40, rdM_41, wrM_41, rdM_42, wrM_42, rdM_43, wrM_43, rdM_44, wrM_44, rdM_45, wrM_45, rdM_46, wrM_46, rlM_47, wlM_47, rdM_48, wrM_48, rdM_49, wrM_49, rdM_50, wrM_50, rdM_51, wrM_51, rdM_52, wrM_52, rdM_53, wrM_53, rdM_54, wrM_54, rdM_55, wrM_55, rdM_56, wrM_56, rdM_57, wrM_57, rdM_58, wrM_58, rdM_59, wrM_59, rlM_60, wlM_60, rdM_61, wrM_61, rdM_62, wrM_62, h2, g0, nI_1, nI_pred]
  · refine Op.no (-1) ?_ ?_ h
    · unfold f_X10_term f_X3_add
      simp only [lies0, in0, wdL, side0, author0, minute0, year0, week0, cell0, mside0, mminute0, myear0, mweek0, mship0, mtown0, ship0, town0, law0, mcell0, gF, ltI, leI, Int32.reduceToInt, Int64.reduceToInt, h1, e1]
      (repeat' split) <;> first | rfl | (exfalso; omega)
    · unfold f_X11_term
      simp only [lies0, in0, wdL, side0, author0, minute0, year0, week0, cell0, mside0, mminute0, myear0, mweek0, mship0, mtown0, ship0, town0, law0, mcell0, gF, ltI, leI, Int32.reduceToInt, Int64.reduceToInt, h2, e1]
      simp only [eqI (nI n), e1, Int32.reduceToInt]
      (repeat' split) <;> first | rfl | (exfalso; omega)
theorem szI_b {A : Nat → Int32} (hA : Bi 9999 A) (s i : Nat) (hi : i ≤ 9) : -(9999 * (i : Int)) ≤ (szI A s i).toInt ∧ (szI A s i).toInt ≤ 9999 * (i : Int) := by
  induction i with
  | zero => exact ⟨show -(9999 * (0 : Int)) ≤ (0 : Int32).toInt by decide, show (0 : Int32).toInt ≤ 9999 * (0 : Int) by decide⟩
  | succ i ih =>
    have h1 := ih (by omega)
    have h2 := hA i
    show _ ≤ (szI A s i + _).toInt ∧ (szI A s i + _).toInt ≤ _
    by_cases c : s / 2 ^ i % 2 = 1
    · rw [if_pos c, addI (by omega) (by omega)]; omega
    · rw [if_neg c, Int32.add_zero]; omega
theorem cn_le (s i : Nat) : cn s i ≤ i := by
  induction i with
  | zero => exact Nat.le_refl _
  | succ i ih => show cn s i + s / 2 ^ i % 2 ≤ _; omega
theorem cn_hi {s n : Nat} (hs : s < 2 ^ n) : ∀ k, cn s (n + k) = cn s n := by
  intro k
  induction k with
  | zero => rfl
  | succ k ih =>
    show cn s (n + k) + s / 2 ^ (n + k) % 2 = _
    rw [ih, Nat.div_eq_of_lt (Nat.lt_of_lt_of_le hs (Nat.pow_le_pow_right (by decide) (by omega)))]
    rfl
theorem bit_u {s i : Nat} (hs : s < 2147483648) (hi : i < 32) : ushr (nI s) (nI i) &&& 1 = nI (s / 2 ^ i % 2) := by
  unfold ushr
  have hq : s / 2 ^ i ≤ s := Nat.div_le_self _ _
  rw [pk_ushrN (by omega) _ i (sh_u i hi)]
  exact pk_andN (by omega) 1 rfl
theorem bit_s {s i : Nat} (hs : s < 2147483648) (hi : i < 32) : (nI s >>> (nI i &&& 31)) &&& 1 = nI (s / 2 ^ i % 2) := by
  have hq : s / 2 ^ i ≤ s := Nat.div_le_self _ _
  rw [pk_shrN (by omega) _ i (sh_l i hi)]
  exact pk_andN (by omega) 1 rfl
theorem worthC {σ : St} {a1 n s : Nat} (ha : lnO tC σ a1 = 9) (hn : n ≤ 9) (h1 : σ.1 902 = nI n) (hs : s < 512) : ∀ (k i m : Nat), i + k = n → k < m → f_X3_worthOf_5 a1 (nI s) σ m (szI (σ.2.1 a1) s i) (nI i) = some (szI (σ.2.1 a1) s n) := by
  intro k
  induction k with
  | zero =>
    intro i m h2 h3
    obtain ⟨m, rfl⟩ : ∃ q, m = q + 1 := ⟨m - 1, by omega⟩
    have : i = n := by omega
    subst this
    unfold f_X3_worthOf_5
    rw [if_pos (by unfold gF; rw [h1]; exact nI_le (Nat.le_refl _) (by omega))]
  | succ k ih =>
    intro i m h2 h3
    obtain ⟨m, rfl⟩ : ∃ q, m = q + 1 := ⟨m - 1, by omega⟩
    have := ih (i + 1) m (by omega) (by omega)
    have hle : ¬ lenI tC σ a1 ≤ nI i := by unfold lenI; rw [ha]; exact nI_ge (b := 9) (by omega) (by decide)
    have hz : szI (σ.2.1 a1) s (i + 1) = szI (σ.2.1 a1) s i + (if s / 2 ^ i % 2 = 1 then σ.2.1 a1 i else 0) := rfl
    unfold f_X3_worthOf_5 f_X3_worthOf_40
    simp only [bndE]
    rw [if_neg (by unfold gF; rw [h1]; exact nI_ge (by omega) (by omega)), if_neg hle, bit_u (by omega) (by omega), nI_1]
    by_cases c : s / 2 ^ i % 2 = 1
    · rw [if_pos c] at hz
      rw [c, if_pos (show nI 1 = 1 from rfl), rdN rfl ha (by omega) (by decide), bS, ← hz]
      exact this
    · have c0 : s / 2 ^ i % 2 = 0 := by omega
      rw [if_neg c] at hz
      rw [c0, if_neg (by decide), ← hz]
      exact this
theorem countM {τ : St} {n s : Nat} (hn : n ≤ 9) (h1 : τ.1 80 = nI n) (hs : s < 512) {x1 x2 x3 x4 x5 : Int32} {k42 : Int32 → Int32 → Int32 → Int32 → Option Int32} : ∀ (k i m : Nat), i + k = n → k < m → f_X11_sign_65 x1 x2 x3 x4 x5 (nI s) τ k42 m (nI (cn s i)) (szI (τ.2.1 55) s i) (szI (τ.2.1 56) s i) (nI i) = f_X11_sign_120 x1 x2 x3 x4 x5 (nI s) (nI (cn s n)) (szI (τ.2.1 55) s n) (szI (τ.2.1 56) s n) τ k42 := by
  intro k
  induction k with
  | zero =>
    intro i m h2 h3
    obtain ⟨m, rfl⟩ : ∃ q, m = q + 1 := ⟨m - 1, by omega⟩
    have : i = n := by omega
    subst this
    unfold f_X11_sign_65
    rw [if_pos (by unfold gF; rw [h1]; exact nI_le (Nat.le_refl _) (by omega))]
  | succ k ih =>
    intro i m h2 h3
    obtain ⟨m, rfl⟩ : ∃ q, m = q + 1 := ⟨m - 1, by omega⟩
    have := ih (i + 1) m (by omega) (by omega)
    have hz : szI (τ.2.1 55) s (i + 1) = szI (τ.2.1 55) s i + (if s / 2 ^ i % 2 = 1 then τ.2.1 55 i else 0) := rfl
    have hy : szI (τ.2.1 56) s (i + 1) = szI (τ.2.1 56) s i + (if s / 2 ^ i % 2 = 1 then τ.2.1 56 i else 0) := rfl
    have hc : cn s (i + 1) = cn s i + s / 2 ^ i % 2 := rfl
    unfold f_X11_sign_65 f_X11_sign_114
    simp only [bndE]
    rw [if_neg (by unfold gF; rw [h1]; exact nI_ge (by omega) (by omega)), bit_s (by omega) (by omega), nI_1]
    by_cases c : s / 2 ^ i % 2 = 1
    · rw [if_pos c] at hz hy
      rw [c] at hc
      rw [c, if_neg (by decide), rdM_55 (by omega), bS, rdM_56 (by omega), bS, ← hz, ← hy, nI_1, ← hc]
      exact this
    · have c0 : s / 2 ^ i % 2 = 0 := by omega
      rw [if_neg c, Int32.add_zero] at hz hy
      rw [c0, Nat.add_zero] at hc
      rw [c0, if_pos (show nI 0 = 0 from rfl)]
      rw [hz, hy, hc] at this
      exact this
theorem abs_eq (x : Int32) : f_X11_without x = f_J9_abs_0f7a4 x := by
  unfold f_X11_without f_J9_abs_0f7a4
  rw [bndE, Int32.zero_sub]
theorem abs_b {x : Int32} {B : Int} (hB : B < 2147483648) (h : -B ≤ x.toInt ∧ x.toInt ≤ B) : 0 ≤ (f_J9_abs_0f7a4 x).toInt ∧ (f_J9_abs_0f7a4 x).toInt ≤ B := by
  unfold f_J9_abs_0f7a4
  by_cases c : (0 : Int32) ≤ x
  · rw [if_pos c]
    rw [leI] at c
    exact ⟨c, h.2⟩
  · rw [if_neg c, Int32.zero_sub, negI (by omega)]
    rw [leI] at c
    have c : ¬ (0 : Int) ≤ x.toInt := c
    omega
def sRel (x3 x4 y4 y5 : Int32) : Prop := x3 = -2 ∨ ∃ b fw : Nat, b < 512 ∧ fw ≤ 9 ∧ x3 = nI b ∧ y4 = nI fw ∧ (0 ≤ y5.toInt ∧ y5.toInt < 1000000) ∧ x4.toInt = fw * 1000000 + y5.toInt
theorem sign_loop {σ τ : St} {n : Nat} (hn : n ≤ 9) (h1 : σ.1 902 = nI n) (h2 : τ.1 80 = nI n) (a1 : σ.2.1 63 = τ.2.1 55) (a2 : σ.2.1 64 = τ.2.1 56) (b1 : Bi 9999 (σ.2.1 63)) (b2 : Bi 9999 (σ.2.1 64)) (x1 x2 : Int32) : ∀ (k s m m' : Nat) (x3 x4 y4 y5 : Int32), s + k = 2 ^ n → k < m → k < m' → sRel x3 x4 y4 y5 → ∃ r, f_X3_bestSet_9 x1 x2 σ m x3 x4 (nI s) = some r ∧ f_X11_sign_42 x1 x2 τ m' x3 y4 y5 (nI s) = some r := by
  have hp : 2 ^ n ≤ 2 ^ 9 := Nat.pow_le_pow_right (by decide) hn
  intro k
  induction k with
  | zero =>
    intro s m m' x3 x4 y4 y5 h3 h4 h5 h6
    obtain ⟨m, rfl⟩ : ∃ q, m = q + 1 := ⟨m - 1, by omega⟩
    obtain ⟨m', rfl⟩ : ∃ q, m' = q + 1 := ⟨m' - 1, by omega⟩
    refine ⟨x3, ?_, ?_⟩
    · unfold f_X3_bestSet_9 gF
      rw [h1, one_shl n (by omega), if_pos (nI_le (by omega) (by omega))]
    · unfold f_X11_sign_42 gF
      rw [h2, one_shl n (by omega), if_pos (nI_le (by omega) (by omega))]
  | succ k ih =>
    intro s m m' x3 x4 y4 y5 h3 h4 h5 h6
    obtain ⟨m, rfl⟩ : ∃ q, m = q + 1 := ⟨m - 1, by omega⟩
    obtain ⟨m', rfl⟩ : ∃ q, m' = q + 1 := ⟨m' - 1, by omega⟩
    have hs : s < 2 ^ n := by omega
    have w1 : f_X3_worthOf 63 (nI s) σ = _ := worthC (a1 := 63) rfl hn h1 (show s < 512 by omega) n 0 FU (by omega) (by unfold FU; omega)
    have w2 : f_X3_worthOf 64 (nI s) σ = _ := worthC (a1 := 64) rfl hn h1 (show s < 512 by omega) n 0 FU (by omega) (by unfold FU; omega)
    have w3 := countM hn h2 (show s < 512 by omega) (x1 := x1) (x2 := x2) (x3 := x3) (x4 := y4) (x5 := y5) (k42 := f_X11_sign_42 x1 x2 τ m') n 0 FU (by omega) (by unfold FU; omega)
    have w3 : f_X11_sign_65 x1 x2 x3 y4 y5 (nI s) τ (f_X11_sign_42 x1 x2 τ m') FU 0 0 0 0 = _ := w3
    have bc : f_J6_bitCount_0f7a4 (nI s) = nI (cn s n) := by
      rw [bc_all s (by omega)]
      have := cn_hi hs (9 - n)
      rw [show n + (9 - n) = 9 by omega] at this
      rw [this]
    have z1 := szI_b b1 s n hn
    have z2 := szI_b b2 s n hn
    have hcn := cn_le s n
    have sk : ∃ r, f_X3_bestSet_95 x1 x2 x3 x4 (nI s) σ (f_X3_bestSet_9 x1 x2 σ m) = some r ∧ f_X11_sign_181 x1 x2 x3 y4 y5 (nI s) τ (f_X11_sign_42 x1 x2 τ m') = some r := by
      unfold f_X3_bestSet_95 f_X11_sign_181
      rw [bndE, bndE, nI_1]
      exact ih (s + 1) m m' x3 x4 y4 y5 (by omega) (by omega) (by omega) h6
    unfold f_X3_bestSet_9 f_X11_sign_42
    rw [show gF σ 902 = nI n from h1, show gF τ 80 = nI n from h2, one_shl n (by omega), if_neg (nI_ge hs (by omega)), if_neg (nI_ge hs (by omega)), w1, bS, w2, bS, w3, bc]
    unfold f_X11_sign_120
    rw [← a1, ← a2, abs_eq]
    simp only [bndE]
    generalize szI (σ.2.1 63) s n = A at *
    generalize szI (σ.2.1 64) s n = B at *
    have d : (A - B).toInt = A.toInt - B.toInt := subI (by omega) (by omega)
    have da := abs_b (x := A - B) (B := 200000) (by decide) (by omega)
    generalize f_J9_abs_0f7a4 (A - B) = fa at *
    have ec : (nI (cn s n) * 1000000 : Int32) = nI (cn s n * 1000000) := pk_mul _ 1000000
    have ew : (nI (cn s n) * 1000000 + fa).toInt = (cn s n : Int) * 1000000 + fa.toInt := by
      rw [ec, addI (by rw [nI_toInt (by omega)]; omega) (by rw [nI_toInt (by omega)]; omega), nI_toInt (by omega)]
      omega
    have tk : ∃ r, f_X3_bestSet_88 x1 x2 (nI s) (nI (cn s n) * 1000000 + fa) σ (f_X3_bestSet_9 x1 x2 σ m) = some r ∧ f_X11_sign_170 x1 x2 (nI s) (nI (cn s n)) fa τ (f_X11_sign_42 x1 x2 τ m') = some r := by
      unfold f_X3_bestSet_88 f_X3_bestSet_95 f_X11_sign_170 f_X11_sign_181
      rw [bndE, bndE, nI_1]
      exact ih (s + 1) m m' _ _ _ _ (by omega) (by omega) (by omega) (Or.inr ⟨s, cn s n, by omega, by omega, rfl, rfl, by omega, ew⟩)
    by_cases c1 : A < x1
    · rw [if_pos c1, if_pos c1]; exact sk
    · rw [if_neg c1, if_neg c1]
      by_cases c2 : B < x2
      · rw [if_pos c2, if_pos c2]; exact sk
      · rw [if_neg c2, if_neg c2]
        rcases h6 with h6 | ⟨b, fw, hb, hf, e3, e4, hy, e5⟩
        · rw [if_pos h6, if_pos (show x3 < 0 by rw [h6]; decide)]; exact tk
        · subst e3
          subst e4
          have hle : (x4 ≤ nI (cn s n) * 1000000 + fa) = ((fw : Int) * 1000000 + y5.toInt ≤ (cn s n : Int) * 1000000 + fa.toInt) := by rw [leI, e5, ew]
          have hfa : (fa < y5) = (fa.toInt < y5.toInt) := ltI _ _
          have hn2 : ¬ nI b = -2 := by
            intro z
            have := congrArg Int32.toInt z
            rw [nI_toInt (by omega)] at this
            have this : (b : Int) = -2 := this
            omega
          rw [if_neg hn2, if_neg (show ¬ nI b < 0 from nI_pos (by omega))]
          by_cases c3 : fw < cn s n
          · rw [if_pos (show x4 ≤ nI (cn s n) * 1000000 + fa by rw [hle]; omega), if_pos (show nI fw < nI (cn s n) from nI_lt c3 (by omega))]
            exact sk
          · rw [if_neg (show ¬ nI fw < nI (cn s n) from nI_nlt (by omega) (by omega))]
            by_cases c4 : cn s n = fw
            · rw [if_pos (show nI (cn s n) = nI fw by rw [c4])]
              by_cases c5 : fa.toInt < y5.toInt
              · rw [if_neg (show ¬ x4 ≤ nI (cn s n) * 1000000 + fa by rw [hle]; omega), if_pos (show fa < y5 by rw [hfa]; exact c5)]
                exact tk
              · rw [if_pos (show x4 ≤ nI (cn s n) * 1000000 + fa by rw [hle]; omega), if_neg (show ¬ fa < y5 by rw [hfa]; exact c5)]
                exact sk
            · rw [if_neg (show ¬ x4 ≤ nI (cn s n) * 1000000 + fa by rw [hle]; omega), if_neg (show ¬ nI (cn s n) = nI fw by rw [nI_eqE (by omega) (by omega)]; exact c4)]
              exact tk
theorem q_sign (x y : Int32) {σ τ : St} (h : M_not σ τ) : ∃ r, f_X10_sign x y σ = some r ∧ f_X11_sign x y τ = some r := by
  obtain ⟨n, hn, h1, h2, a1, a2, b1, b2⟩ := id h
  have hp : 2 ^ n ≤ 2 ^ 9 := Nat.pow_le_pow_right (by decide) hn
  obtain ⟨r, r1, r2⟩ := sign_loop hn h1 h2 a1 a2 b1 b2 x y (2 ^ n) 0 FU FU (-2) 0 0 0 (by omega) (by unfold FU; omega) (by unfold FU; omega) (Or.inl rfl)
  by_cases hg : (-99999 ≤ x.toInt ∧ x.toInt ≤ 99999) ∧ -99999 ≤ y.toInt ∧ y.toInt ≤ 99999
  · refine ⟨r, ?_, ?_⟩
    · unfold f_X10_sign f_X3_bestSet
      simp only [lies0, in0, wdL, side0, author0, minute0, year0, week0, cell0, mside0, mminute0, myear0, mweek0, mship0, mtown0, ship0, town0, law0, mcell0, gF, ltI, leI, Int32.reduceToInt, Int64.reduceToInt]
      rw [if_neg (by omega), if_neg (by omega), show f_X3_bestSet_9 x y σ FU (-2) 0 0 = _ from r1]
      rfl
    · unfold f_X11_sign
      simp only [lies0, in0, wdL, side0, author0, minute0, year0, week0, cell0, mside0, mminute0, myear0, mweek0, mship0, mtown0, ship0, town0, law0, mcell0, gF, ltI, leI, Int32.reduceToInt, Int64.reduceToInt]
      rw [if_neg (by omega), if_neg (by omega)]
      exact r2
  · refine ⟨-1, ?_, ?_⟩
    · unfold f_X10_sign
      simp only [lies0, in0, wdL, side0, author0, minute0, year0, week0, cell0, mside0, mminute0, myear0, mweek0, mship0, mtown0, ship0, town0, law0, mcell0, gF, ltI, leI, Int32.reduceToInt, Int64.reduceToInt]
      (repeat' split) <;> first | rfl | (exfalso; omega)
    · unfold f_X11_sign
      simp only [lies0, in0, wdL, side0, author0, minute0, year0, week0, cell0, mside0, mminute0, myear0, mweek0, mship0, mtown0, ship0, town0, law0, mcell0, gF, ltI, leI, Int32.reduceToInt, Int64.reduceToInt]
      (repeat' split) <;> first | rfl | (exfalso; omega)
