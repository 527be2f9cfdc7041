/-! what towns and sides answer -/
theorem twn_of {σ τ : St} (h : M_twn σ τ) : ∃ (n b : Nat) (cf pf vf : Nat → Nat), (n ≤ 8 ∧ b ≤ 20 ∧ σ.1 804 = nI n ∧ τ.1 71 = nI n ∧ τ.1 76 = nI b) ∧ (∀ t, σ.2.1 61 t = nI (cf t) ∧ τ.2.1 51 t = nI (cf t) ∧ cf t ≤ 99999) ∧ (∀ t, σ.2.1 60 t = nI (pf t) ∧ τ.2.1 50 t = nI (pf t) ∧ pf t ≤ 9999999) ∧ (∀ t, σ.2.1 59 t = nI (vf t) ∧ τ.2.1 49 t = nI (vf t) ∧ vf t ≤ 9999) ∧ σ.2.1 58 = τ.2.1 48 ∧ ∀ t, t < 8 → ∀ w, w < 100 → σ.2.1 62 (100 * t + w) = if (fun w => bz (τ.2.1 52) (τ.2.1 53) (τ.2.1 54) t w b) w = true then 1 else 0 := by
  obtain ⟨⟨n, hn, h1, h2⟩, ⟨a1, a2, a3, a4⟩, ⟨b1, b2, b3⟩, ⟨b, hb, h3, h4, hz⟩⟩ := h
  refine ⟨n, b, fun t => nN (σ.2.1 61 t), fun t => nN (σ.2.1 60 t), fun t => nN (σ.2.1 59 t), ⟨hn, hb, h1, h2, h4⟩, fun t => ?_, fun t => ?_, fun t => ?_, a1, fun t ht w hw => hz t w ht hw⟩
  · have := nN_of (by decide) (b3 t); rw [← a4]; exact ⟨this.1, this.1, this.2⟩
  · have := nN_of (by decide) (b2 t); rw [← a3]; exact ⟨this.1, this.1, this.2⟩
  · have := nN_of (by decide) (b1 t); rw [← a2]; exact ⟨this.1, this.1, this.2⟩
theorem q_lost (x y : Int32) {σ τ : St} (h : M_twn σ τ) : ∃ r, f_X10_lost x y σ = some r ∧ f_X11_lost x y τ = some r := by
  obtain ⟨n, b, cf, pf, vf, ⟨hn, hb, h1, h2, h3⟩, hc, hp, hv, hs, hz⟩ := twn_of h
  have e1 := nI_toInt (show n < 2 ^ 31 by omega)
  by_cases hg : (0 ≤ x.toInt ∧ x.toInt < n) ∧ 0 ≤ y.toInt ∧ y.toInt < 100
  · obtain ⟨g1, g2⟩ := hg
    obtain ⟨t, ht, rfl⟩ := nI_btw (n := 7) g1.1 (by omega)
    obtain ⟨w, hw, rfl⟩ := nI_btw (n := 99) g2.1 (by omega)
    have et := nI_toInt (show t < 2 ^ 31 by omega)
    have ew := nI_toInt (show w < 2 ^ 31 by omega)
    rw [et] at g1
    refine ⟨nI (ls (fun w => bz (τ.2.1 52) (τ.2.1 53) (τ.2.1 54) t w b) (cf t) (w + 1)), ?_, ?_⟩
    · unfold f_X10_lost f_X9_lostBy
      simp only [lies0, in0, wdL, side0, author0, minute0, year0, week0, cell0, mside0, mminute0, myear0, mweek0, mship0, mtown0, ship0, town0, law0, mcell0, gF, ltI, leI, Int32.reduceToInt, Int64.reduceToInt, et, ew, h1, e1]
      rw [if_neg (by omega), if_neg (by omega), if_neg (by omega), show f_X9_lostBy_15 (nI t) (nI w) σ FU 0 0 = _ from lostC (show t < 8 by omega) (hc t).2.2 (hc t).1 (hz t (by omega)) (show w < 100 by omega) (w + 1) 0 FU (by omega) (by unfold FU; omega)]
      rfl
    · unfold f_X11_lost f_X11_lostBy
      simp only [lies0, in0, wdL, side0, author0, minute0, year0, week0, cell0, mside0, mminute0, myear0, mweek0, mship0, mtown0, ship0, town0, law0, mcell0, gF, ltI, leI, Int32.reduceToInt, Int64.reduceToInt, et, ew, h2, e1]
      rw [if_neg (by omega), if_neg (by omega), show f_X11_lostBy_5 (nI t) (nI w) τ FU 0 0 = _ from lostM (show t < 8 by omega) h3 hb (hc t).2.1 (show w < 100 by omega) (w + 1) 0 FU (by omega) (by unfold FU; omega)]
      rfl
  · refine ⟨-1, ?_, ?_⟩
    · unfold f_X10_lost
      simp only [lies0, in0, wdL, side0, author0, minute0, year0, week0, cell0, mside0, mminute0, myear0, mweek0, mship0, mtown0, ship0, town0, law0, mcell0, gF, ltI, leI, Int32.reduceToInt, Int64.reduceToInt, h1, e1]
      (repeat' split) <;> first | rfl | (exfalso; omega)
    · unfold f_X11_lost f_X11_lost_24
      simp only [lies0, in0, wdL, side0, author0, minute0, year0, week0, cell0, mside0, mminute0, myear0, mweek0, mship0, mtown0, ship0, town0, law0, mcell0, gF, ltI, leI, Int32.reduceToInt, Int64.reduceToInt, h2, e1]
      (repeat' split) <;> first | rfl | (exfalso; omega)
theorem q_yields (x : Int32) {σ τ : St} (h : M_twn σ τ) : ∃ r, f_X10_yields x σ = some r ∧ f_X11_yields x τ = some r := by
  obtain ⟨n, b, cf, pf, vf, ⟨hn, hb, h1, h2, h3⟩, hc, hp, hv, hs, hz⟩ := twn_of h
  have e1 := nI_toInt (show n < 2 ^ 31 by omega)
  by_cases hg : 0 ≤ x.toInt ∧ x.toInt < n
  · obtain ⟨t, ht, rfl⟩ := nI_btw (n := 7) hg.1 (by omega)
    have et := nI_toInt (show t < 2 ^ 31 by omega)
    rw [et] at hg
    refine ⟨wI (go (gw (fun w => bz (τ.2.1 52) (τ.2.1 53) (τ.2.1 54) t w b) (cf t) (pf t)) 100 0), ?_, ?_⟩
    · unfold f_X10_yields f_X9_weekOf
      simp only [lies0, in0, wdL, side0, author0, minute0, year0, week0, cell0, mside0, mminute0, myear0, mweek0, mship0, mtown0, ship0, town0, law0, mcell0, gF, ltI, leI, Int32.reduceToInt, Int64.reduceToInt, et, h1, e1]
      rw [if_neg (by omega), if_neg (by omega), show f_X9_weekOf_14 (nI t) σ FU 0 0 = _ from weekC (show t < 8 by omega) (hc t).2.2 (hp t).2.2 (hc t).1 (hp t).1 (hz t (by omega)) 100 0 FU (by omega) (by unfold FU; omega)]
      rfl
    · unfold f_X11_yields
      simp only [lies0, in0, wdL, side0, author0, minute0, year0, week0, cell0, mside0, mminute0, myear0, mweek0, mship0, mtown0, ship0, town0, law0, mcell0, gF, ltI, leI, Int32.reduceToInt, Int64.reduceToInt, et, h2, e1]
      rw [if_neg (by omega), show f_X11_yields_12 (nI t) τ FU 0 = _ from yieldsM (show t < 8 by omega) h3 hb (hc t).2.1 (hc t).2.2 (hp t).2.1 (hp t).2.2 100 0 FU (by omega) (by unfold FU; omega)]
  · refine ⟨-1, ?_, ?_⟩
    · unfold f_X10_yields
      simp only [lies0, in0, wdL, side0, author0, minute0, year0, week0, cell0, mside0, mminute0, myear0, mweek0, mship0, mtown0, ship0, town0, law0, mcell0, gF, ltI, leI, Int32.reduceToInt, Int64.reduceToInt, h1, e1]
      (repeat' split) <;> first | rfl | (exfalso; omega)
    · unfold f_X11_yields
      simp only [lies0, in0, wdL, side0, author0, minute0, year0, week0, cell0, mside0, mminute0, myear0, mweek0, mship0, mtown0, ship0, town0, law0, mcell0, gF, ltI, leI, Int32.reduceToInt, Int64.reduceToInt, h2, e1]
      (repeat' split) <;> first | rfl | (exfalso; omega)
def alN (sd : Nat → Int32) (s : Int32) (vo : Nat → Nat) : Nat → Nat
  | 0 => 0
  | t + 1 => alN sd s vo t + (if sd t = s then vo t else 0)
def gvN (sd : Nat → Int32) (s : Int32) (vo wk : Nat → Nat) (w : Nat) : Nat → Nat
  | 0 => 0
  | t + 1 => gvN sd s vo wk w t + (if sd t = s ∧ wk t ≤ w then vo t else 0)
theorem alN_le {sd : Nat → Int32} {s : Int32} {vo : Nat → Nat} (hv : ∀ t, vo t ≤ 9999) (t : Nat) : alN sd s vo t ≤ 9999 * t := by
  induction t with
  | zero => exact Nat.zero_le _
  | succ t ih =>
    have := hv t
    show alN sd s vo t + _ ≤ _
    split <;> omega
theorem gvN_le {sd : Nat → Int32} {s : Int32} {vo wk : Nat → Nat} (hv : ∀ t, vo t ≤ 9999) (w t : Nat) : gvN sd s vo wk w t ≤ 9999 * t := by
  induction t with
  | zero => exact Nat.zero_le _
  | succ t ih =>
    have := hv t
    show gvN sd s vo wk w t + _ ≤ _
    split <;> omega
theorem gvN_congr {sd : Nat → Int32} {s : Int32} {vo wk : Nat → Nat} {w w' : Nat} (n : Nat) (h : ∀ t, t < n → ((sd t = s ∧ wk t ≤ w) ↔ (sd t = s ∧ wk t ≤ w'))) : gvN sd s vo wk w n = gvN sd s vo wk w' n := by
  induction n with
  | zero => rfl
  | succ n ih =>
    show gvN sd s vo wk w n + _ = gvN sd s vo wk w' n + _
    rw [ih (fun t ht => h t (by omega))]
    have := h n (by omega)
    by_cases c : sd n = s ∧ wk n ≤ w
    · rw [if_pos c, if_pos (this.mp c)]
    · rw [if_neg c, if_neg (fun z => c (this.mpr z))]
theorem gvN_zero {sd : Nat → Int32} {s : Int32} {vo wk : Nat → Nat} {w : Nat} (n : Nat) (h : ∀ t, t < n → ¬ (sd t = s ∧ wk t ≤ w)) : gvN sd s vo wk w n = 0 := by
  induction n with
  | zero => rfl
  | succ n ih =>
    show gvN sd s vo wk w n + _ = 0
    rw [ih (fun t ht => h t (by omega)), if_neg (h n (by omega))]
theorem wI_lt {x : Nat} (h : x < 100) : wI x = nI x := if_pos h
theorem wI_ge {x : Nat} (h : ¬ x < 100) : wI x = -2 := if_neg h
section SY
variable {σ τ : St} {n : Nat} {s : Int32} {vf wk : Nat → Nat}
theorem enoughC (hn : n ≤ 8) (h1 : σ.1 804 = nI n) (hv : ∀ t, σ.2.1 59 t = nI (vf t)) (hvb : ∀ t, vf t ≤ 9999) (hw : ∀ t, t < n → f_X9_weekOf (nI t) σ = some (wI (wk t))) {w : Nat} (hw1 : w < 100) : ∀ (k t m : Nat), t + k = n → k < m → f_X9_isEnough_8 s (nI w) σ m (nI (alN (σ.2.1 58) s vf t)) (nI (gvN (σ.2.1 58) s vf wk w t)) (nI t) = some (if alN (σ.2.1 58) s vf n < 2 * gvN (σ.2.1 58) s vf wk w n then 1 else 0) := by
  intro k
  induction k with
  | zero =>
    intro t m h2 h3
    obtain ⟨m, rfl⟩ : ∃ q, m = q + 1 := ⟨m - 1, by omega⟩
    have : t = n := by omega
    subst this
    have l1 := alN_le (sd := σ.2.1 58) (s := s) hvb t
    have l2 := gvN_le (sd := σ.2.1 58) (s := s) (wk := wk) hvb w t
    unfold f_X9_isEnough_8 f_X9_isEnough_79
    have e : (2 : Int32) * nI (gvN (σ.2.1 58) s vf wk w t) = nI (2 * gvN (σ.2.1 58) s vf wk w t) := pk_mul 2 _
    rw [if_pos (by unfold gF; rw [h1]; exact nI_le (Nat.le_refl _) (by omega)), e, bndE, narB']
    by_cases c : alN (σ.2.1 58) s vf t < 2 * gvN (σ.2.1 58) s vf wk w t
    · rw [if_pos c, if_neg (nI_ge c (by omega))]
    · rw [if_neg c, if_pos (nI_le (by omega) (by omega))]
  | succ k ih =>
    intro t m h2 h3
    obtain ⟨m, rfl⟩ : ∃ q, m = q + 1 := ⟨m - 1, by omega⟩
    have := ih (t + 1) m (by omega) (by omega)
    have ha : alN (σ.2.1 58) s vf (t + 1) = alN (σ.2.1 58) s vf t + (if σ.2.1 58 t = s then vf t else 0) := rfl
    have hg : gvN (σ.2.1 58) s vf wk w (t + 1) = gvN (σ.2.1 58) s vf wk w t + (if σ.2.1 58 t = s ∧ wk t ≤ w then vf t else 0) := rfl
    unfold f_X9_isEnough_8 f_X9_isEnough_69 f_X9_isEnough_70 f_X9_isEnough_73
    simp only [bndE]
    rw [if_neg (by unfold gF; rw [h1]; exact nI_ge (by omega) (by omega)), rdC_58 (by omega), bS, nI_1]
    by_cases c : σ.2.1 58 t = s
    · rw [if_pos c] at ha
      rw [if_pos c, hw t (by omega), bS, rdC_59 (by omega), bS, hv t, nI_add, ← ha]
      by_cases d : wk t ≤ w
      · rw [if_pos ⟨c, d⟩] at hg
        rw [wI_lt (by omega), if_neg (nI_pos (by omega)), if_neg (nI_nlt (by omega) (by omega)), bS, nI_add, ← hg]
        exact this
      · rw [if_neg (fun z => d z.2)] at hg
        have e0 : nI (gvN (σ.2.1 58) s vf wk w t) + 0 = nI (gvN (σ.2.1 58) s vf wk w (t + 1)) := by rw [hg]; exact nI_add _ 0
        rw [e0]
        by_cases d2 : wk t < 100
        · rw [wI_lt d2, if_neg (nI_pos (by omega)), if_pos (nI_lt (by omega) (by omega))]
          exact this
        · rw [wI_ge d2, if_pos (by decide)]
          exact this
    · rw [if_neg c] at ha
      rw [if_neg (fun z => c z.1)] at hg
      rw [if_neg c]
      rw [ha, hg] at this
      exact this
def Pw (sd : Nat → Int32) (s : Int32) (vf wk : Nat → Nat) (n w : Nat) : Bool := decide (alN sd s vf n < 2 * gvN sd s vf wk w n)
theorem Pw_first {sd : Nat → Int32} {r : Nat} (h : Pw sd s vf wk n r = true) (hb : ∀ u, u < r → Pw sd s vf wk n u = false) : ∃ t, t < n ∧ sd t = s ∧ wk t = r := by
  by_cases hex : ∃ t, t < n ∧ sd t = s ∧ wk t = r
  · exact hex
  · exfalso
    have hno : ∀ t, t < n → ¬ (sd t = s ∧ wk t = r) := fun t ht z => hex ⟨t, ht, z⟩
    have h' := of_decide_eq_true h
    cases r with
    | zero =>
      have : gvN sd s vf wk 0 n = 0 := gvN_zero n (fun t ht z => hno t ht ⟨z.1, by omega⟩)
      rw [this] at h'
      omega
    | succ u =>
      have e : gvN sd s vf wk (u + 1) n = gvN sd s vf wk u n := gvN_congr n (fun t ht => ⟨fun z => ⟨z.1, by
        have h1 := z.2
        have h2 := hno t ht
        by_cases c : wk t = u + 1
        · exact absurd ⟨z.1, c⟩ h2
        · omega⟩, fun z => ⟨z.1, by omega⟩⟩)
      have h2 := hb u (by omega)
      unfold Pw at h2
      have h3 := of_decide_eq_false h2
      rw [e] at h'
      exact h3 h'
theorem sideC (hn : n ≤ 8) (h1 : σ.1 804 = nI n) (hv : ∀ t, σ.2.1 59 t = nI (vf t)) (hvb : ∀ t, vf t ≤ 9999) (hwb : ∀ t, wk t ≤ 100) (hw : ∀ t, t < n → f_X9_weekOf (nI t) σ = some (wI (wk t))) : ∀ (k t m f : Nat), t + k = n → k < m → f ≤ 100 → (f < 100 → Pw (σ.2.1 58) s vf wk n f = true) → (∀ t', t' < t → σ.2.1 58 t' = s → wk t' < 100 → Pw (σ.2.1 58) s vf wk n (wk t') = true → f ≤ wk t') → ∃ f', f_X9_weekOfSide_5 s σ m (wI f) (nI t) = some (wI f') ∧ f' ≤ 100 ∧ (f' < 100 → Pw (σ.2.1 58) s vf wk n f' = true) ∧ (∀ t', t' < n → σ.2.1 58 t' = s → wk t' < 100 → Pw (σ.2.1 58) s vf wk n (wk t') = true → f' ≤ wk t') := by
  intro k
  induction k with
  | zero =>
    intro t m f h2 h3 h4 h5 h6
    obtain ⟨m, rfl⟩ : ∃ q, m = q + 1 := ⟨m - 1, by omega⟩
    have : t = n := by omega
    subst this
    refine ⟨f, ?_, h4, h5, h6⟩
    unfold f_X9_weekOfSide_5
    rw [if_pos (by unfold gF; rw [h1]; exact nI_le (Nat.le_refl _) (by omega))]
  | succ k ih =>
    intro t m f h2 h3 h4 h5 h6
    obtain ⟨m, rfl⟩ : ∃ q, m = q + 1 := ⟨m - 1, by omega⟩
    unfold f_X9_weekOfSide_5
    rw [if_neg (by unfold gF; rw [h1]; exact nI_ge (by omega) (by omega)), rdC_58 (by omega), bS]
    have skip : (σ.2.1 58 t = s → wk t < 100 → Pw (σ.2.1 58) s vf wk n (wk t) = true → f ≤ wk t) → ∃ f', f_X9_weekOfSide_65 s (wI f) (nI t) σ (f_X9_weekOfSide_5 s σ m) = some (wI f') ∧ f' ≤ 100 ∧ (f' < 100 → Pw (σ.2.1 58) s vf wk n f' = true) ∧ (∀ t', t' < n → σ.2.1 58 t' = s → wk t' < 100 → Pw (σ.2.1 58) s vf wk n (wk t') = true → f' ≤ wk t') := by
      intro hsk
      unfold f_X9_weekOfSide_65
      rw [bndE, nI_1]
      refine ih (t + 1) m f (by omega) (by omega) h4 h5 (fun t' ht' => ?_)
      by_cases c : t' = t
      · subst c; exact hsk
      · exact h6 t' (by omega)
    by_cases c : σ.2.1 58 t = s
    · rw [if_pos c, hw t (by omega), bS]
      unfold f_X9_weekOfSide_33
      by_cases d : wk t < 100
      · have hE := enoughC (s := s) (wk := wk) hn h1 hv hvb hw d n 0 FU (by omega) (by unfold FU; omega)
        have hE : f_X9_isEnough s (nI (wk t)) σ = _ := hE
        rw [wI_lt d, if_neg (nI_pos (by omega))]
        have yes : (f = 100 ∨ wk t < f) → ∃ f', f_X9_weekOfSide_52 s (wI f) (nI t) (nI (wk t)) σ (f_X9_weekOfSide_5 s σ m) = some (wI f') ∧ f' ≤ 100 ∧ (f' < 100 → Pw (σ.2.1 58) s vf wk n f' = true) ∧ (∀ t', t' < n → σ.2.1 58 t' = s → wk t' < 100 → Pw (σ.2.1 58) s vf wk n (wk t') = true → f' ≤ wk t') := by
          intro hf
          unfold f_X9_weekOfSide_52
          rw [hE, bS]
          by_cases q : alN (σ.2.1 58) s vf n < 2 * gvN (σ.2.1 58) s vf wk (wk t) n
          · rw [if_pos q, if_neg (by decide)]
            unfold f_X9_weekOfSide_65
            rw [bndE, nI_1, ← wI_lt d]
            refine ih (t + 1) m (wk t) (by omega) (by omega) (by omega) (fun _ => decide_eq_true q) (fun t' ht' q1 q2 q3 => ?_)
            by_cases e : t' = t
            · subst e; exact Nat.le_refl _
            · have := h6 t' (by omega) q1 q2 q3
              omega
          · rw [if_neg q, if_pos rfl]
            exact skip (fun _ _ z => absurd (of_decide_eq_true z) q)
        by_cases hf : f = 100
        · subst hf
          rw [if_pos (show wI 100 = -2 from rfl)]
          exact yes (Or.inl rfl)
        · have hw2 : wI f = nI f := wI_lt (by omega)
          rw [if_neg (by rw [hw2]; intro z; have := congrArg Int32.toInt z; rw [nI_toInt (by omega)] at this; have this : (f : Int) = -2 := this; omega)]
          by_cases q : f ≤ wk t
          · rw [if_pos (by rw [hw2]; exact nI_le q (by omega))]
            exact skip (fun _ _ _ => q)
          · rw [if_neg (by rw [hw2]; exact nI_ge (by omega) (by omega))]
            exact yes (Or.inr (by omega))
      · rw [wI_ge d, if_pos (by decide)]
        exact skip (fun _ z => absurd z d)
    · rw [if_neg c]
      unfold f_X9_weekOfSide_33
      rw [if_pos (by decide)]
      exact skip (fun z => absurd z c)
theorem sumM (hn : n ≤ 8) (h1 : τ.1 71 = nI n) (hv : ∀ t, τ.2.1 49 t = nI (vf t)) (hvb : ∀ t, vf t ≤ 9999) {w : Nat} (hw1 : w < 100) (hw : ∀ t, t < n → f_X11_gaveWay (nI t) (nI w) τ = some (if wk t ≤ w then 1 else 0)) {k11 : Int32 → Option Int32} : ∀ (k t m : Nat), t + k = n → k < m → f_X11_sideYields_25 s (nI w) τ k11 m (nI (alN (τ.2.1 48) s vf t)) (nI (gvN (τ.2.1 48) s vf wk w t)) (nI t) = f_X11_sideYields_90 s (nI w) (nI (alN (τ.2.1 48) s vf n)) (nI (gvN (τ.2.1 48) s vf wk w n)) τ k11 := by
  intro k
  induction k with
  | zero =>
    intro t m h2 h3
    obtain ⟨m, rfl⟩ : ∃ q, m = q + 1 := ⟨m - 1, by omega⟩
    have : t = n := by omega
    subst this
    unfold f_X11_sideYields_25
    rw [if_pos (by unfold gF; rw [h1]; exact nI_le (Nat.le_refl _) (by omega))]
  | succ k ih =>
    intro t m h2 h3
    obtain ⟨m, rfl⟩ : ∃ q, m = q + 1 := ⟨m - 1, by omega⟩
    have := ih (t + 1) m (by omega) (by omega)
    have ha : alN (τ.2.1 48) s vf (t + 1) = alN (τ.2.1 48) s vf t + (if τ.2.1 48 t = s then vf t else 0) := rfl
    have hg : gvN (τ.2.1 48) s vf wk w (t + 1) = gvN (τ.2.1 48) s vf wk w t + (if τ.2.1 48 t = s ∧ wk t ≤ w then vf t else 0) := rfl
    unfold f_X11_sideYields_25 f_X11_sideYields_81 f_X11_sideYields_84
    simp only [bndE]
    rw [if_neg (by unfold gF; rw [h1]; exact nI_ge (by omega) (by omega)), rdM_48 (by omega), bS, nI_1]
    by_cases c : τ.2.1 48 t = s
    · rw [if_pos c] at ha
      rw [if_pos c, rdM_49 (by omega), bS, hv t, nI_add, ← ha, hw t (by omega), bS]
      by_cases d : wk t ≤ w
      · rw [if_pos ⟨c, d⟩] at hg
        rw [if_pos d, if_neg (by decide), bS, nI_add, ← hg]
        exact this
      · rw [if_neg (fun z => d z.2)] at hg
        have e0 : nI (gvN (τ.2.1 48) s vf wk w t) + 0 = nI (gvN (τ.2.1 48) s vf wk w (t + 1)) := by rw [hg]; exact nI_add _ 0
        rw [if_neg d, if_pos rfl, e0]
        exact this
    · rw [if_neg c] at ha
      rw [if_neg (fun z => c z.1)] at hg
      rw [if_neg c]
      rw [ha, hg] at this
      exact this
theorem sideM (hn : n ≤ 8) (h1 : τ.1 71 = nI n) (hv : ∀ t, τ.2.1 49 t = nI (vf t)) (hvb : ∀ t, vf t ≤ 9999) (hw : ∀ t, t < n → ∀ w, w < 100 → f_X11_gaveWay (nI t) (nI w) τ = some (if wk t ≤ w then 1 else 0)) : ∀ (k w m : Nat), w + k = 100 → k < m → f_X11_sideYields_11 s τ m (nI w) = some (wI (go (Pw (τ.2.1 48) s vf wk n) k w)) := by
  intro k
  induction k with
  | zero =>
    intro w m h2 h3
    obtain ⟨m, rfl⟩ : ∃ q, m = q + 1 := ⟨m - 1, by omega⟩
    have : w = 100 := by omega
    subst this
    unfold f_X11_sideYields_11
    rw [if_pos (show (100 : Int32) ≤ nI 100 from nI_le (a := 100) (Nat.le_refl _) (by decide))]
    rfl
  | succ k ih =>
    intro w m h2 h3
    obtain ⟨m, rfl⟩ : ∃ q, m = q + 1 := ⟨m - 1, by omega⟩
    have h100 : ¬ (100 : Int32) ≤ nI w := nI_ge (b := 100) (by omega) (by decide)
    have hgo : go (Pw (τ.2.1 48) s vf wk n) (k + 1) w = if Pw (τ.2.1 48) s vf wk n w = true then w else go (Pw (τ.2.1 48) s vf wk n) k (w + 1) := rfl
    have hs := sumM (s := s) (wk := wk) hn h1 hv hvb (show w < 100 by omega) (fun t ht => hw t ht w (by omega)) (k11 := f_X11_sideYields_11 s τ m) n 0 FU (by omega) (by unfold FU; omega)
    have l1 := alN_le (sd := τ.2.1 48) (s := s) hvb n
    have l2 := gvN_le (sd := τ.2.1 48) (s := s) (wk := wk) hvb w n
    have e : (2 : Int32) * nI (gvN (τ.2.1 48) s vf wk w n) = nI (2 * gvN (τ.2.1 48) s vf wk w n) := pk_mul 2 _
    unfold f_X11_sideYields_11
    rw [if_neg h100, show f_X11_sideYields_25 s (nI w) τ (f_X11_sideYields_11 s τ m) FU 0 0 0 = _ from hs, hgo]
    unfold f_X11_sideYields_90
    rw [e, bndE, nI_1]
    by_cases c : alN (τ.2.1 48) s vf n < 2 * gvN (τ.2.1 48) s vf wk w n
    · rw [if_neg (nI_ge c (by omega)), if_pos (show Pw (τ.2.1 48) s vf wk n w = true from decide_eq_true c), wI_lt (by omega)]
    · rw [if_pos (nI_le (by omega) (by omega)), if_neg (show ¬ Pw (τ.2.1 48) s vf wk n w = true from fun z => c (of_decide_eq_true z))]
      exact ih (w + 1) m (by omega) (by omega)
end SY
theorem q_side (x : Int32) {σ τ : St} (h : M_twn σ τ) : ∃ r, f_X10_sideYields x σ = some r ∧ f_X11_sideYields x τ = some r := by
  obtain ⟨n, b, cf, pf, vf, ⟨hn, hb, h1, h2, h3⟩, hc, hp, hv, hs, hz⟩ := twn_of h
  have e1 := nI_toInt (show n < 2 ^ 31 by omega)
  by_cases hg : 0 ≤ x.toInt ∧ x.toInt ≤ 1
  · have hwC : ∀ t, t < n → f_X9_weekOf (nI t) σ = some (wI (go (gw (fun w => bz (τ.2.1 52) (τ.2.1 53) (τ.2.1 54) t w b) (cf t) (pf t)) 100 0)) := by
      intro t ht
      have et := nI_toInt (show t < 2 ^ 31 by omega)
      unfold f_X9_weekOf
      simp only [lies0, in0, wdL, side0, author0, minute0, year0, week0, cell0, mside0, mminute0, myear0, mweek0, mship0, mtown0, ship0, town0, law0, mcell0, gF, ltI, leI, Int32.reduceToInt, Int64.reduceToInt, et, h1, e1]
      rw [if_neg (by omega)]
      exact weekC (show t < 8 by omega) (hc t).2.2 (hp t).2.2 (hc t).1 (hp t).1 (hz t (by omega)) 100 0 FU (by omega) (by unfold FU; omega)
    have hwM : ∀ t, t < n → ∀ w, w < 100 → f_X11_gaveWay (nI t) (nI w) τ = some (if go (gw (fun w => bz (τ.2.1 52) (τ.2.1 53) (τ.2.1 54) t w b) (cf t) (pf t)) 100 0 ≤ w then 1 else 0) := by
      intro t ht w hw
      rw [gaveM (show t < 8 by omega) h3 hb (hc t).2.1 (hc t).2.2 (hp t).2.1 (hp t).2.2 hw]
      simp only [go_le (p := gw (fun w => bz (τ.2.1 52) (τ.2.1 53) (τ.2.1 54) t w b) (cf t) (pf t)) (fun u v huv hu => gw_mono huv hu) hw]
    have hwb : ∀ t, (fun t => go (gw (fun w => bz (τ.2.1 52) (τ.2.1 53) (τ.2.1 54) t w b) (cf t) (pf t)) 100 0) t ≤ 100 := fun t => by have := (go_spec (gw (fun w => bz (τ.2.1 52) (τ.2.1 53) (τ.2.1 54) t w b) (cf t) (pf t)) 100 0).2.1; exact this
    generalize hwk : (fun t => go (gw (fun w => bz (τ.2.1 52) (τ.2.1 53) (τ.2.1 54) t w b) (cf t) (pf t)) 100 0) = wk at hwb
    have hwC : ∀ t, t < n → f_X9_weekOf (nI t) σ = some (wI (wk t)) := by rw [← hwk]; exact hwC
    have hwM : ∀ t, t < n → ∀ w, w < 100 → f_X11_gaveWay (nI t) (nI w) τ = some (if wk t ≤ w then 1 else 0) := by rw [← hwk]; exact hwM
    obtain ⟨f, q1, q2, q3, q4⟩ := sideC (s := x) hn h1 (fun t => (hv t).1) (fun t => (hv t).2.2) hwb hwC n 0 FU 100 (by omega) (by unfold FU; omega) (Nat.le_refl _) (fun z => absurd z (by omega)) (fun t' z => absurd z (by omega))
    have r1 := sideM (s := x) hn h2 (fun t => (hv t).2.1) (fun t => (hv t).2.2) hwM 100 0 FU (by omega) (by unfold FU; omega)
    obtain ⟨g1, g2, g3, g4⟩ := go_spec (Pw (τ.2.1 48) x vf wk n) 100 0
    rw [hs] at q3 q4
    have key : f = go (Pw (τ.2.1 48) x vf wk n) 100 0 := by
      rcases Nat.lt_trichotomy f (go (Pw (τ.2.1 48) x vf wk n) 100 0) with c | c | c
      · have h5 := g3 f (by omega) c
        rw [q3 (by omega)] at h5
        cases h5
      · exact c
      · exfalso
        have h5 := g4 (by omega)
        obtain ⟨t, ht, hsd, hwt⟩ := Pw_first h5 (fun u hu => g3 u (by omega) hu)
        have h6 := q4 t ht hsd (by omega) (by rw [hwt]; exact h5)
        omega
    refine ⟨wI f, ?_, ?_⟩
    · unfold f_X10_sideYields f_X9_weekOfSide
      rw [if_neg (by rw [side0]; exact not_not_intro hg), show f_X9_weekOfSide_5 x σ FU (-2) 0 = _ from q1]
      rfl
    · unfold f_X11_sideYields
      rw [if_neg (by rw [mside0]; exact not_not_intro hg), show f_X11_sideYields_11 x τ FU 0 = _ from r1, key]
  · refine ⟨-1, ?_, ?_⟩
    · unfold f_X10_sideYields
      rw [if_pos (by rw [side0]; exact hg)]
    · unfold f_X11_sideYields
      rw [if_pos (by rw [mside0]; exact hg)]
