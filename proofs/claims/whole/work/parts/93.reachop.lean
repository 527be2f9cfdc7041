/-! reach, within, inside; in force -/
set_option maxHeartbeats 200000 in
theorem Op.ite {α : Type} {c1 c2 : Prop} [Decidable c1] [Decidable c2] {fc fm : Option (α × St)} {P : St → St → Prop} {F G : List Nat × List Nat × List Nat} {σ τ : St} (hc : c1 ↔ c2) (r : α) (hn : P σ τ) (h : ¬ c1 → Op fc fm P F G σ τ) : Op (if c1 then some (r, σ) else fc) (if c2 then some (r, τ) else fm) P F G σ τ := by
  by_cases c : c1
  · rw [if_pos c, if_pos (hc.mp c)]; exact Op.no r rfl rfl hn
  · rw [if_neg c, if_neg (fun z => c (hc.mpr z))]; exact h c
set_option maxHeartbeats 200000 in
theorem sideE (x : Int32) : f_X10_isSide x = 0 ↔ f_X11_isSide x = 0 := by rw [side0, mside0]
set_option maxHeartbeats 200000 in
theorem minE (x : Int32) : f_X10_isMinute x = 0 ↔ f_X11_isMinute x = 0 := by
  rw [minute0, mminute0]
  constructor <;> intro h z <;> exact h (by omega)
set_option maxHeartbeats 200000 in
theorem cellE (x y : Int32) : f_X6_isCell x y = 0 ↔ f_X11_isCell x y = 0 := by rw [cell0, mcell0]
set_option maxHeartbeats 200000 in
theorem side_of {x : Int32} (h : ¬ f_X10_isSide x = 0) : ∃ j, j < 2 ∧ x = nI j := by
  rw [side0] at h
  obtain ⟨j, hj, e⟩ := nI_btw (n := 1) (Decidable.not_not.mp h).1 (Decidable.not_not.mp h).2
  exact ⟨j, by omega, e⟩
set_option maxHeartbeats 200000 in
theorem min_of {x : Int32} (h : ¬ f_X10_isMinute x = 0) : ∃ j, j < 9000 ∧ x = nI j := by
  rw [minute0] at h
  obtain ⟨j, hj, e⟩ := nI_btw (n := 8999) (Decidable.not_not.mp h).1 (Decidable.not_not.mp h).2
  exact ⟨j, by omega, e⟩
set_option maxHeartbeats 200000 in
theorem o_reach (x m : Int32) {σ τ : St} (h : M_law σ τ) : Op (f_X10_reach x m σ) (f_X11_reach x m τ) Tt ([], [], [12, 44]) ([47, 48, 49, 50, 51], [], [33]) σ τ := by
  obtain ⟨L, ks, Ln, K, H, -⟩ := h
  unfold f_X10_reach f_X11_reach f_X11_reach_23
  refine Op.ite (sideE _) (-1) trivial (fun g1 => Op.ite (minE _) (-1) trivial (fun g2 => ?_))
  obtain ⟨m, hm, rfl⟩ := min_of g2
  obtain ⟨r, σ', τ', r1, r2, r3, r4⟩ := reach_both H x hm
  exact ⟨r, σ', τ', by rw [r1, bS], by rw [r2, bS], trivial, r3, r4⟩
set_option maxHeartbeats 200000 in
theorem o_within (x c a b m : Int32) {σ τ : St} (h : M_law σ τ) (hp : M_pts σ τ) : Op (f_X10_within x c a b m σ) (f_X11_within x c a b m τ) Tt ([], [], [12, 44]) ([47, 48, 49, 50, 51], [], [33]) σ τ := by
  obtain ⟨L, ks, Ln, K, H, -⟩ := h
  unfold f_X10_within f_X11_within
  refine Op.ite (sideE _) (-1) trivial (fun g1 => Op.ite (by rw [lies0, in0, wdL]; exact Iff.rfl) (-1) trivial (fun g3 => Op.ite (cellE _ _) (-1) trivial (fun g4 => Op.ite (minE _) (-1) trivial (fun g2 => ?_))))
  obtain ⟨m, hm, rfl⟩ := min_of g2
  obtain ⟨j, hj, rfl⟩ := side_of g1
  obtain ⟨r, σ', τ', r1, r2, r3, r4⟩ := reach_both H (nI j) hm
  obtain ⟨v, v1, v2⟩ := near_eq (hp.fr r3 r4 (by decide)) hj c a b r
  refine ⟨(if v = 0 then 0 else 1), σ', τ', ?_, ?_, trivial, r3, r4⟩
  · rw [r1, bS]
    show (f_X6_isNear (nI j) c a b r σ').bind _ = _
    rw [v1, bS, bndE]
  · rw [r2, bS]
    show (f_X11_isNear (nI j) c a b r τ').bind _ = _
    rw [v2, bS, bndE]
set_option maxHeartbeats 200000 in
theorem inside_loop {σ τ : St} (hs : M_shp σ τ) (hr : M_rep σ τ) (hp : M_pts σ τ) {j : Nat} (hj : j < 2) (c a b r : Int32) {n : Nat} (hn : n ≤ 40) (e1 : σ.1 204 = nI n) (e2 : τ.1 2 = nI n) : ∀ (k i f f' : Nat) (v : Int64), i + k = n → k < f → k < f' → ∃ w, f_X10_inside_49 (nI j) c a b r σ f v (nI i) = some (w, σ) ∧ f_X11_inside_50 (nI j) c a b r τ f' v (nI i) = some (w, τ) := by
  intro k
  induction k with
  | zero =>
    intro i f f' v hi hf hf'
    obtain ⟨f, rfl⟩ : ∃ q, f = q + 1 := ⟨f - 1, by omega⟩
    obtain ⟨f', rfl⟩ : ∃ q, f' = q + 1 := ⟨f' - 1, by omega⟩
    refine ⟨v, ?_, ?_⟩
    · unfold f_X10_inside_49
      rw [show gF σ 204 = nI n from e1, if_pos (by rw [nI_leE (by omega) (by omega)]; omega)]
    · unfold f_X11_inside_50
      rw [show gF τ 2 = nI n from e2, if_pos (by rw [nI_leE (by omega) (by omega)]; omega)]
  | succ k ih =>
    intro i f f' v hi hf hf'
    obtain ⟨f, rfl⟩ : ∃ q, f = q + 1 := ⟨f - 1, by omega⟩
    obtain ⟨f', rfl⟩ : ∃ q, f' = q + 1 := ⟨f' - 1, by omega⟩
    have ih := fun w => ih (i + 1) f f' w (by omega) (by omega) (by omega)
    rw [← show nI i + 1 = nI (i + 1) from nI_add _ 1] at ih
    have e18 : σ.2.1 18 = τ.2.1 2 := by obtain ⟨_, _, _, _, e, _⟩ := hs; exact e
    obtain ⟨cc, c1, c2, c3⟩ := cell_eq hr (nI i) a b
    unfold f_X10_inside_49 f_X11_inside_50 f_X11_inside_83 f_X10_inside_131 f_X11_inside_120
    rw [show gF σ 204 = nI n from e1, if_neg (by rw [nI_leE (by omega) (by omega)]; omega), show gF τ 2 = nI n from e2, if_neg (by rw [nI_leE (by omega) (by omega)]; omega), rdC_18 (by omega), bS, rdM_2 (by omega), bS, e18, c1, c2, bS, bS]
    by_cases g : τ.2.1 2 i = nI j
    · rw [if_pos g, if_pos g, if_pos (show (-1 : Int32) < 0 by decide), bndE]
      exact ih v
    · rw [if_neg g, if_neg g]
      rcases c3 with z | ⟨q, hq, z⟩
      · rw [z, if_pos rfl, if_pos (show (-1 : Int32) < 0 by decide), bndE]
        exact ih v
      · rw [z, if_neg (show ¬ nI q = -1 from fun h => by have := nI_lt0 (n := q) (by omega); rw [h] at this; exact absurd (show (-1 : Int32) < 0 by decide) (by rw [this]; exact fun h => h)), if_neg (show ¬ nI q < 0 by rw [nI_lt0 (by omega)]; exact fun h => h)]
        obtain ⟨y, y1, y2⟩ := near_eq hp hj c (f_X6_xOf (nI q)) (f_X6_yOf (nI q)) r
        rw [y1, bS, show f_X11_isNear (nI j) c (nI q - nI q / 24 * 24) (nI q / 24) r τ = some y from y2, bS]
        by_cases y0 : y = 0
        · rw [if_pos y0, if_pos y0, bndE]; exact ih v
        · rw [if_neg y0, if_neg y0, bndE, bndE]; exact ih _
set_option maxHeartbeats 200000 in
theorem o_inside (x c a b : Int32) {σ τ : St} (h : M_law σ τ) (hs : M_shp σ τ) (hr : M_rep σ τ) (hp : M_pts σ τ) : Op (f_X10_inside x c a b σ) (f_X11_inside x c a b τ) Tt ([], [], [12, 44]) ([47, 48, 49, 50, 51], [], [33]) σ τ := by
  obtain ⟨L, ks, Ln, K, H, -⟩ := h
  unfold f_X10_inside f_X11_inside
  refine Op.ite (sideE _) (-1) trivial (fun g1 => Op.ite (by rw [lies0, in0, wdL]; exact Iff.rfl) (-1) trivial (fun g3 => Op.ite (minE _) (-1) trivial (fun g4 => Op.ite (minE _) (-1) trivial (fun g2 => ?_))))
  obtain ⟨a, hm, rfl⟩ := min_of g4
  obtain ⟨j, hj, rfl⟩ := side_of g1
  obtain ⟨r, σ', τ', r1, r2, r3, r4⟩ := reach_both H (nI j) hm
  have hs' := hs.fr r3 r4 (by decide)
  obtain ⟨n, hn, e1, e2, -⟩ := id hs'
  obtain ⟨w, w1, w2⟩ := inside_loop hs' (hr.fr r3 r4 (by decide)) (hp.fr r3 r4 (by decide)) hj c (nI a) b r hn e1 e2 n 0 FU FU 0 (by omega) (by unfold FU; omega) (by unfold FU; omega)
  refine ⟨w, σ', τ', ?_, ?_, trivial, r3, r4⟩
  · rw [r1, bS]; exact w1
  · rw [r2, bS]; exact w2
set_option maxHeartbeats 200000 in
theorem q_inForce (s m : Int32) {σ τ : St} (h : M_law σ τ) : ∃ r, f_X10_inForce s m σ = some r ∧ f_X11_inForce s m τ = some r := by
  obtain ⟨L, ks, Ln, K, H, -⟩ := h
  have h1 := H.1
  have h2 : σ.1 400 = nI L.length := H.2.1
  have h3 : τ.1 25 = nI L.length := H.2.2.1
  have e1 : (nI L.length).toInt = L.length := nI_toInt (by omega)
  have e2 : (nI L.length - 1).toInt = (L.length : Int) - 1 := by
    have : ∀ n, n ≤ 12 → (nI n - 1).toInt = (n : Int) - 1 := by decide
    exact this _ h1
  unfold f_X10_inForce f_X11_inForce f_X11_inForce_23
  by_cases g : 0 ≤ s.toInt ∧ s.toInt < (nI L.length).toInt
  · rw [if_neg (by rw [law0, show gF σ 400 = _ from h2]; exact not_not_intro g), if_neg (show ¬ f_X11_in s.toInt64 0 (gF τ 25 - 1).toInt64 = 0 by rw [in0, wdL, wdL, show gF τ 25 = _ from h3, e2]; refine not_not_intro ⟨g.1, ?_⟩; have := g.2; rw [e1] at this; omega)]
    by_cases c : f_X10_isMinute m = 0
    · rw [if_pos c, if_pos ((minE _).mp c)]; exact ⟨_, rfl, rfl⟩
    · rw [if_neg c, if_neg (fun z => c ((minE _).mpr z))]
      obtain ⟨m, hm, rfl⟩ := min_of c
      obtain ⟨j, hj, rfl⟩ := nI_btw (x := s) (n := L.length - 1) g.1 (by have := g.2; rw [e1] at this; omega)
      have hj' : j < L.length := by
        have := g.2
        rw [e1, nI_toInt (show j < 2 ^ 31 by omega)] at this
        omega
      rw [stands_eq H hj' hm, force_eq H hj' hm, bS, bS, bndE]
      cases frc L j m <;> exact ⟨_, rfl, rfl⟩
  · rw [if_pos (by rw [law0, show gF σ 400 = _ from h2]; exact g), if_pos (show f_X11_in s.toInt64 0 (gF τ 25 - 1).toInt64 = 0 by rw [in0, wdL, wdL, show gF τ 25 = _ from h3, e2]; rw [e1] at g; intro z; have z1 : 0 ≤ s.toInt := z.1; have z2 := z.2; exact g ⟨z1, by omega⟩)]
    exact ⟨_, rfl, rfl⟩
