/-! giving way, and being near -/
theorem ov_eq (a b c d : Int32) : f_X11_overtakes a b c d = f_X10_overtakes a b c d := rfl
theorem ri_eq (a b c : Int32) : f_X11_isRight a b c = f_X10_isToTheRight a b c := rfl
theorem ov_self (a c d : Int32) : f_X10_overtakes a a c d = 0 := by
  unfold f_X10_overtakes f_X10_overtakes_98
  simp only [bndE, Int32.sub_self, Int32.zero_mul, Int32.add_zero]
  rw [if_pos (by decide)]
theorem ri_self (a c : Int32) : f_X10_isToTheRight a a c = 0 := by
  unfold f_X10_isToTheRight
  simp only [bndE, Int32.sub_self, Int32.zero_mul]
  rw [if_pos (by decide)]
  rfl
theorem goes_eq (a b : Int32) : (f_X11_goes a b = 0) = (a = b) := by
  unfold f_X11_goes
  rw [bndE, narB']
  by_cases e : a = b
  · rw [if_pos e]; exact propext ⟨fun _ => e, fun _ => rfl⟩
  · rw [if_neg e]; exact propext ⟨fun z => absurd z (by decide), fun z => absurd z e⟩
theorem hasTo_eq (a b c d : Int32) : f_X11_hasTo a b c d = if f_X10_overtakes c d a b = 0 then (if f_X10_overtakes a b c d = 0 then (if f_X10_isToTheRight a b c = 0 then 0 else 1) else 1) else 0 := by
  unfold f_X11_hasTo f_X11_hasTo_45
  rw [ov_eq, ov_eq, ri_eq]
  by_cases e : a = b
  · rw [if_pos (by rw [goes_eq]; exact e)]
    subst e
    have h1 := ov_self a c d
    have h2 := ri_self a c
    generalize f_X10_overtakes a a c d = u at *
    generalize f_X10_isToTheRight a a c = v at *
    generalize f_X10_overtakes c d a a = w at *
    subst h1
    subst h2
    by_cases z : w = 0
    · rw [if_pos z]; rfl
    · rw [if_neg z]
  · rw [if_neg (by rw [goes_eq]; exact e)]
theorem q_way (a b m k : Int32) {σ τ : St} (h : M_rep σ τ) (hs : M_shp σ τ) : ∃ r, f_X10_way a b m k σ = some r ∧ f_X11_way a b m k τ = some r := by
  obtain ⟨ns, hs1, hs2, hs3, -⟩ := id hs
  have e2 := nI_toInt (show ns < 2 ^ 31 by omega)
  obtain ⟨c1, x1, y1, z1⟩ := cell_eq h a (m - 1) k
  obtain ⟨c2, x2, y2, z2⟩ := cell_eq h a m k
  obtain ⟨c3, x3, y3, z3⟩ := cell_eq h b (m - 1) k
  obtain ⟨c4, x4, y4, z4⟩ := cell_eq h b m k
  have neg : ∀ c : Int32, (c = -1 ∨ ∃ j, j < 576 ∧ c = nI j) → ((c < 0) = (c = -1)) := by
    intro c hc
    rcases hc with rfl | ⟨j, hj, rfl⟩
    · exact propext ⟨fun _ => rfl, fun _ => by decide⟩
    · exact propext ⟨fun z => absurd z (nI_pos (by omega)), fun z => by rw [z]; decide⟩
  have pos : ∀ c : Int32, (c = -1 ∨ ∃ j, j < 576 ∧ c = nI j) → ((0 ≤ c) = ¬ (c = -1)) := by
    intro c hc
    rw [← neg c hc]
    exact propext ⟨fun z w => by rw [leI] at z; rw [ltI] at w; omega, fun z => by rw [leI]; rw [ltI] at z; omega⟩
  by_cases hg : (0 ≤ a.toInt ∧ a.toInt < ns) ∧ (0 ≤ b.toInt ∧ b.toInt < ns) ∧ a ≠ b ∧ (1 ≤ m.toInt ∧ m.toInt ≤ 8999) ∧ (0 ≤ k.toInt ∧ k.toInt < 9000)
  · obtain ⟨g1, g2, g3, g4, g5⟩ := hg
    have key : ∃ r, (if c1 = -1 then some (-2) else if c2 = -1 then some (-2) else if c3 = -1 then some (-2) else if c4 = -1 then some (-2) else (bnd (f_X10_overtakes c1 c2 c3 c4 : Int32) fun v17 => bnd (f_X10_overtakes c3 c4 c1 c2 : Int32) fun v18 => if v18 = 0 then (if v17 = 0 then (if (f_X10_isToTheRight c1 c2 c3) = 0 then f_X10_way_183 c1 c3 c4 v17 v18 σ else f_X10_way_179 c1 c3 c4 v17 v18 σ) else f_X10_way_179 c1 c3 c4 v17 v18 σ) else f_X10_way_183 c1 c3 c4 v17 v18 σ)) = some r ∧ (if c1 = -1 then some (-2) else if c2 = -1 then some (-2) else if c3 = -1 then some (-2) else if ¬ c4 = -1 then (bnd (if (f_X11_hasTo c1 c2 c3 c4) = 0 then 0 else 1 : Int32) fun v13 => bnd (if (f_X11_hasTo c3 c4 c1 c2) = 0 then 0 else 2 : Int32) fun v14 => some (v13 + v14)) else some (-2)) = some r := by
      by_cases d1 : c1 = -1
      · rw [if_pos d1, if_pos d1]; exact ⟨_, rfl, rfl⟩
      rw [if_neg d1, if_neg d1]
      by_cases d2 : c2 = -1
      · rw [if_pos d2, if_pos d2]; exact ⟨_, rfl, rfl⟩
      rw [if_neg d2, if_neg d2]
      by_cases d3 : c3 = -1
      · rw [if_pos d3, if_pos d3]; exact ⟨_, rfl, rfl⟩
      rw [if_neg d3, if_neg d3]
      by_cases d4 : c4 = -1
      · rw [if_pos d4, if_neg (not_not_intro d4)]; exact ⟨_, rfl, rfl⟩
      rw [if_neg d4, if_pos d4]
      unfold f_X10_way_179 f_X10_way_183 f_X10_way_184 f_X10_way_208 f_X10_way_212 f_X10_way_213
      simp only [bndE, hasTo_eq]
      by_cases o1 : f_X10_overtakes c1 c2 c3 c4 = 0
      · by_cases o2 : f_X10_overtakes c3 c4 c1 c2 = 0
        · by_cases r1 : f_X10_isToTheRight c1 c2 c3 = 0
          · by_cases r2 : f_X10_isToTheRight c3 c4 c1 = 0
            · simp only [if_pos o1, if_pos o2, if_pos r1, if_pos r2]; exact ⟨_, rfl, rfl⟩
            · simp only [if_pos o1, if_pos o2, if_pos r1, if_neg r2]; exact ⟨_, rfl, rfl⟩
          · by_cases r2 : f_X10_isToTheRight c3 c4 c1 = 0
            · simp only [if_pos o1, if_pos o2, if_neg r1, if_pos r2]; exact ⟨_, rfl, rfl⟩
            · simp only [if_pos o1, if_pos o2, if_neg r1, if_neg r2]; exact ⟨_, rfl, rfl⟩
        · simp only [if_pos o1, if_neg o2]; exact ⟨_, rfl, rfl⟩
      · by_cases o2 : f_X10_overtakes c3 c4 c1 c2 = 0
        · simp only [if_neg o1, if_pos o2]; exact ⟨_, rfl, rfl⟩
        · simp only [if_neg o1, if_neg o2]; exact ⟨_, rfl, rfl⟩
    obtain ⟨r, k1, k2⟩ := key
    refine ⟨r, ?_, ?_⟩
    · unfold f_X10_way
      rw [if_neg (by rw [ship0]; unfold gF; rw [hs2, e2]; exact not_not_intro g1), if_neg (by rw [ship0]; unfold gF; rw [hs2, e2]; exact not_not_intro g2), if_neg g3, if_neg (by rw [lies0]; exact not_not_intro g4), if_neg (by rw [minute0]; omega), x1, bS, x2, bS, x3, bS, x4, bS]
      exact k1
    · unfold f_X11_way
      rw [if_neg (by rw [mship0]; unfold gF; rw [hs3, e2]; exact not_not_intro g1), if_neg (by rw [mship0]; unfold gF; rw [hs3, e2]; exact not_not_intro g2), if_neg g3, if_neg (by rw [in0, wdL]; exact not_not_intro g4), if_neg (by rw [mminute0]; omega), y1, bS, y2, bS, y3, bS, y4, bS]
      simp only [neg c1 z1, neg c2 z2, neg c3 z3, pos c4 z4]
      exact k2
  · refine ⟨-1, ?_, ?_⟩
    · unfold f_X10_way
      by_cases c : a = b
      · rw [if_pos c]
        split
        · rfl
        · split <;> rfl
      · simp only [if_neg c]
        simp only [lies0, in0, wdL, side0, author0, minute0, year0, week0, cell0, mside0, mminute0, myear0, mweek0, mship0, mtown0, ship0, town0, law0, mcell0, gF, ltI, leI, Int32.reduceToInt, Int64.reduceToInt, hs2, e2]
        (repeat' split) <;> first | rfl | (exfalso; apply hg; refine ⟨by omega, by omega, c, by omega, by omega⟩)
    · unfold f_X11_way
      by_cases c : a = b
      · rw [if_pos c]
        split
        · rfl
        · split <;> rfl
      · simp only [if_neg c]
        simp only [lies0, in0, wdL, side0, author0, minute0, year0, week0, cell0, mside0, mminute0, myear0, mweek0, mship0, mtown0, ship0, town0, law0, mcell0, gF, ltI, leI, Int32.reduceToInt, Int64.reduceToInt, hs3, e2]
        (repeat' split) <;> first | rfl | (exfalso; apply hg; refine ⟨by omega, by omega, c, by omega, by omega⟩)
theorem near_eq {σ τ : St} (h : M_pts σ τ) {j : Nat} (hj : j < 2) (ch x y re : Int32) : ∃ r, f_X6_isNear (nI j) ch x y re σ = some r ∧ f_X11_isNear (nI j) ch x y re τ = some r := by
  obtain ⟨a1, a2, a3, a4, a5, a6⟩ := id h
  obtain ⟨m, hm, em⟩ := a6 j hj
  have em' : τ.2.1 15 j = nI m := by rw [← a3]; exact em
  have ej := nI_toInt (show j < 2 ^ 31 by omega)
  have i1 : nI j * 16 = nI (16 * j) := by rw [show (16 : Int32) = nI 16 from rfl, pk_mul, Nat.mul_comm]
  have i2 : 16 * nI j = nI (16 * j) := pk_mul 16 j
  have loop : ∀ (k i f f' : Nat), i + k = 16 * j + m → k < f → k < f' → ∃ r, f_X6_isNear_19 (nI j) ch x y re (nI (16 * j)) σ f (nI i) = some r ∧ f_X11_isNear_6 (nI j) ch x y re τ f' (nI i) = some r := by
    intro k
    induction k with
    | zero =>
      intro i f f' h1 h2 h3
      obtain ⟨f, rfl⟩ : ∃ q, f = q + 1 := ⟨f - 1, by omega⟩
      obtain ⟨f', rfl⟩ : ∃ q, f' = q + 1 := ⟨f' - 1, by omega⟩
      refine ⟨0, ?_, ?_⟩
      · unfold f_X6_isNear_19
        rw [rdC_17 hj, bS, em, nI_add, if_pos (nI_le (by omega) (by omega))]
      · unfold f_X11_isNear_6
        rw [rdM_15 hj, bS, em', i2, nI_add, if_pos (nI_le (by omega) (by omega))]
    | succ k ih =>
      intro i f f' h1 h2 h3
      obtain ⟨f, rfl⟩ : ∃ q, f = q + 1 := ⟨f - 1, by omega⟩
      obtain ⟨f', rfl⟩ : ∃ q, f' = q + 1 := ⟨f' - 1, by omega⟩
      obtain ⟨r, r1, r2⟩ := ih (i + 1) f f' (by omega) (by omega) (by omega)
      unfold f_X6_isNear_19 f_X11_isNear_6
      rw [rdC_17 hj, bS, em, nI_add, if_neg (nI_ge (by omega) (by omega)), rdM_15 hj, bS, em', i2, nI_add, if_neg (nI_ge (by omega) (by omega)), rdC_15 (by omega), bS, rdM_16 (by omega), bS, rdC_16 (by omega), rdM_17 (by omega), ← a1, ← a2, show gF τ 21 = gF σ 104 from a4.symm, show gF τ 22 = gF σ 105 from a5.symm]
      simp only [bndE, bS]
      rw [nI_1, r1, r2]
      have gen : ∀ (c : Prop) [Decidable c], ∃ q : Int32, (if c then some r else some 1) = some q ∧ (if c then some r else some 1) = some q := by
        intro c _
        by_cases hc : c
        · rw [if_pos hc]; exact ⟨r, rfl, rfl⟩
        · rw [if_neg hc]; exact ⟨1, rfl, rfl⟩
      exact gen _
  obtain ⟨r, r1, r2⟩ := loop m (16 * j) FU FU (by omega) (by unfold FU; omega) (by unfold FU; omega)
  refine ⟨r, ?_, ?_⟩
  · unfold f_X6_isNear
    rw [if_neg (by rw [side0, ej]; omega), i1, bndE]
    exact r1
  · unfold f_X11_isNear
    rw [i2, bndE]
    exact r2
theorem q_beside (s re : Int32) {σ τ : St} (h : M_rep σ τ) (hs : M_shp σ τ) (hp : M_pts σ τ) : ∃ r, f_X10_beside s re σ = some r ∧ f_X11_beside s re τ = some r := by
  obtain ⟨n, hn, h1, h2, ⟨a1, a2, a3, a4, a5, a6⟩, hR, hB⟩ := id h
  obtain ⟨ns, hs1, hs2, hs3, b1, b2, b3, b4⟩ := id hs
  have e2 := nI_toInt (show ns < 2 ^ 31 by omega)
  by_cases hg : (0 ≤ s.toInt ∧ s.toInt ≤ 1) ∧ (0 ≤ re.toInt ∧ re.toInt ≤ 40)
  · obtain ⟨g1, g2⟩ := hg
    obtain ⟨j, hj, rfl⟩ := nI_btw (n := 1) g1.1 g1.2
    have loop : ∀ (k i f f' : Nat) (c : Int32), i + k = n → k < f → k < f' → ∃ r, f_X10_beside_24 (nI j) re σ f c (nI i) = some r ∧ f_X11_beside_26 (nI j) re τ f' c (nI i) = some r := by
      intro k
      induction k with
      | zero =>
        intro i f f' c h3 h4 h5
        obtain ⟨f, rfl⟩ : ∃ q, f = q + 1 := ⟨f - 1, by omega⟩
        obtain ⟨f', rfl⟩ : ∃ q, f' = q + 1 := ⟨f' - 1, by omega⟩
        refine ⟨c, ?_, ?_⟩
        · unfold f_X10_beside_24
          rw [if_pos (by unfold gF; rw [h1]; exact nI_le (by omega) (by omega))]
        · unfold f_X11_beside_26
          rw [if_pos (by unfold gF; rw [h2]; exact nI_le (by omega) (by omega))]
      | succ k ih =>
        intro i f f' c h3 h4 h5
        obtain ⟨f, rfl⟩ : ∃ q, f = q + 1 := ⟨f - 1, by omega⟩
        obtain ⟨f', rfl⟩ : ∃ q, f' = q + 1 := ⟨f' - 1, by omega⟩
        obtain ⟨⟨t1, t2⟩, -, -, -⟩ := hB i (by omega)
        rw [hs2, e2] at t2
        obtain ⟨t, ht, et⟩ := nI_btw (n := 39) t1 (by omega)
        have ett := nI_toInt (show t < 2 ^ 31 by omega)
        have tl : (t : Int) < ns := by rw [et, ett] at t2; exact t2
        obtain ⟨nr, n1, n2⟩ := near_eq hp (show j < 2 by omega) 0 (σ.2.1 25 i) (σ.2.1 26 i) re
        unfold f_X10_beside_24 f_X11_beside_26 f_X10_beside_125 f_X11_beside_95
        simp only [bndE]
        rw [if_neg (by unfold gF; rw [h1]; exact nI_ge (by omega) (by omega)), if_neg (by unfold gF; rw [h2]; exact nI_ge (by omega) (by omega)), rdC_22 (by omega), bS, rdC_23 (by omega), bS, rdM_6 (by omega), bS, rdM_7 (by omega), bS, bS, rdC_25 (by omega), bS, rdC_26 (by omega), bS, rdM_9 (by omega), bS, rdM_10 (by omega), bS, ← a1, ← a2, ← a4, ← a5, nI_1, n1, n2, bS, bS]
        by_cases d : σ.2.1 22 i = σ.2.1 23 i
        · rw [if_pos d, if_pos d, ← d, et, if_neg (by rw [ship0]; unfold gF; rw [hs2, e2, ett]; omega), rdC_18 (by omega), bS, rdM_2 (by omega), bS, ← b1]
          by_cases d2 : σ.2.1 18 t = nI j
          · rw [if_pos d2, if_pos d2]; exact ih (i + 1) f f' c (by omega) (by omega) (by omega)
          · rw [if_neg d2, if_neg d2]
            by_cases d3 : nr = 0
            · rw [if_pos d3, if_pos d3]; exact ih (i + 1) f f' c (by omega) (by omega) (by omega)
            · rw [if_neg d3, if_neg d3]; exact ih (i + 1) f f' (c + 1) (by omega) (by omega) (by omega)
        · rw [if_neg d, if_neg d]; exact ih (i + 1) f f' c (by omega) (by omega) (by omega)
    obtain ⟨r, r1, r2⟩ := loop n 0 FU FU 0 (by omega) (by unfold FU; omega) (by unfold FU; omega)
    refine ⟨r, ?_, ?_⟩
    · unfold f_X10_beside
      rw [if_neg (by rw [side0]; exact not_not_intro g1), if_neg (by rw [lies0]; exact not_not_intro g2)]
      exact r1
    · unfold f_X11_beside
      rw [if_neg (by rw [mside0]; exact not_not_intro g1), if_neg (by rw [in0, wdL]; exact not_not_intro g2)]
      exact r2
  · refine ⟨-1, ?_, ?_⟩
    · unfold f_X10_beside
      simp only [lies0, in0, wdL, side0, author0, minute0, year0, week0, cell0, mside0, mminute0, myear0, mweek0, mship0, mtown0, ship0, town0, law0, mcell0, gF, ltI, leI, Int32.reduceToInt, Int64.reduceToInt]
      (repeat' split) <;> first | rfl | (exfalso; omega)
    · unfold f_X11_beside
      simp only [lies0, in0, wdL, side0, author0, minute0, year0, week0, cell0, mside0, mminute0, myear0, mweek0, mship0, mtown0, ship0, town0, law0, mcell0, gF, ltI, leI, Int32.reduceToInt, Int64.reduceToInt]
      (repeat' split) <;> first | rfl | (exfalso; omega)
