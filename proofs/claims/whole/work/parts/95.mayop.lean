/-! may, mesh, by, kept, broken -/
def JJ (σ τ : St) : Prop := M_law σ τ ∧ M_shp σ τ ∧ M_dep σ τ ∧ M_pts σ τ ∧ M_act σ τ
set_option maxHeartbeats 200000 in
theorem JJ.fr {σ τ σ' τ' : St} (h : JJ σ τ) (f : Fr [] [] [11, 12, 44] σ σ') (g : Fr [47, 48, 49, 50, 51] [] [33] τ τ') : JJ σ' τ' := ⟨h.1.fr f g (by decide), h.2.1.fr f g (by decide), h.2.2.1.fr f g (by decide), h.2.2.2.1.fr f g (by decide), h.2.2.2.2.fr f g (by decide)⟩
set_option maxHeartbeats 200000 in
theorem neg1 {n : Nat} (h : n < 100000) : ¬ nI n = -1 := fun e => by
  have := nI_lt0 (n := n) (by omega)
  rw [e] at this
  exact absurd (show (-1 : Int32) < 0 by decide) (by rw [this]; exact fun h => h)
set_option maxHeartbeats 200000 in
theorem do_both {σ τ : St} (h : M_law σ τ) (hs : M_shp σ τ) (hd : M_dep σ τ) (hp : M_pts σ τ) {x t i a b m : Nat} (hx : x < 3) (ht : t ≤ 4) (hi : ¬ f_X7_has (nI i) σ = 0) (hi4 : i < 40) (ha : a < 24) (hb : b < 24) (hm : m < 9000) : ∃ (z v : Int32) (σ' τ' : St), f_X10_findMay (nI x) (nI t) (nI i) (nI a) (nI b) (nI m) σ = some (z, σ') ∧ f_X2_allows z (nI t) σ' = some v ∧ f_X11_mayDo (nI x) (nI t) (nI i) (nI a) (nI b) (nI m) τ = some (v, τ') ∧ Fr [] [] [11, 12, 44] σ σ' ∧ Fr [47, 48, 49, 50, 51] [] [33] τ τ' := by
  obtain ⟨L, ks, Ln, K, H, -⟩ := h
  obtain ⟨r, σ', τ', r1, r2, r3, r4, r5⟩ := may_both H hs hd hp hx ht hi hi4 ha hb hm
  have H' := H.fr r3 r4 (by decide) (by decide)
  cases r with
  | none =>
    refine ⟨tJ none, (if nI t = 0 then 1 else if nI t = 4 then 1 else 0), σ', τ', r1, ?_, ?_, r3, r4⟩
    · unfold f_X2_allows f_X2_allows_30 f_X2_allows_39
      rw [bndE, bndE, if_pos (show tJ none < 0 by decide)]
      split
      · rfl
      · split <;> rfl
    · unfold f_X11_mayDo f_X11_mayDo_29
      rw [r2, bS, if_neg (show ¬ (0 : Int32) ≤ (tK none, τ').1 by show ¬ (0 : Int32) ≤ -1; decide)]
      split
      · rfl
      · split <;> rfl
  | some p =>
    obtain ⟨p1, p2, p3⟩ := r5 p rfl
    have hL := H.1
    have hCn := (H.2.2.2.2.2.1 p.1 p1).2.2.1.2.2.1
    obtain ⟨⟨a1, a2, a3', a4, a5⟩, ⟨b1, b2, b3, b4, b5⟩, -, -⟩ := H'.2.2.2.2.2.1 p.1 p1
    refine ⟨nI (16 * p.1 + p.2), (if (gC (gS L p.1) p.2).2.1 = 1 then 1 else 0), σ', τ', r1, ?_, ?_, r3, r4⟩
    · unfold f_X2_allows
      have hm : nI (16 * p.1 + p.2) - nI (16 * p.1 + p.2) / 16 * 16 = nI p.2 := by
        rw [div16 p.1 (by omega) p.2 (by omega), show nI p.1 * 16 = nI (p.1 * 16) from pk_mul p.1 16, pk_sub (show p.1 * 16 ≤ 16 * p.1 + p.2 by omega)]
        congr 1; omega
      rw [bndE, bndE, hm, div16 p.1 (by omega) p.2 (by omega), if_neg (by rw [nI_lt0 (by omega)]; exact fun h => h), has_eq H' (by omega), if_pos p1, if_neg (by decide), if_pos (show nI p.2 < 12 from nI_lt (b := 12) (by omega) (by decide)), show nI p.1 * 12 + nI p.2 = nI (12 * p.1 + p.2) from ixd 12 _ _, rdC_39 (by omega), bS, (a5 p.2 p2).2.1, bndE]
      split <;> rfl
    · unfold f_X11_mayDo
      rw [r2, bS]
      show (if 0 ≤ nI (12 * p.1 + p.2) then ((rd tM τ' 23 (nI (12 * p.1 + p.2))).bind fun v6 => if v6 = 1 then some (1, τ') else some (0, τ')) else _) = _
      rw [if_pos (show (0 : Int32) ≤ nI (12 * p.1 + p.2) from nI_le (a := 0) (Nat.zero_le _) (by omega)), rdM_23 (by omega), bS, (b5 p.2 p2).2.1]
      split <;> rfl
set_option maxHeartbeats 200000 in
theorem ship_of {σ τ : St} (hs : M_shp σ τ) {x : Int32} (h : ¬ f_X7_has x σ = 0) : ∃ i, i < 40 ∧ x = nI i := by
  obtain ⟨n, hn, s1, -⟩ := hs
  rw [ship0, show gF σ 204 = _ from s1, nI_toInt (show n < 2 ^ 31 by omega)] at h
  have h := Decidable.not_not.mp h
  obtain ⟨i, hi, e⟩ := nI_btw (x := x) (n := 39) h.1 (by omega)
  exact ⟨i, by omega, e⟩
set_option maxHeartbeats 200000 in
theorem shipE {σ τ : St} (hs : M_shp σ τ) (x : Int32) : f_X7_has x σ = 0 ↔ f_X11_isShip x τ = 0 := by
  obtain ⟨n, hn, s1, s2, -⟩ := hs
  rw [ship0, mship0, show gF σ 204 = _ from s1, show gF τ 2 = _ from s2]
set_option maxHeartbeats 200000 in
theorem cell_of2 {x y : Int32} (h : ¬ f_X6_isCell x y = 0) : ∃ a b, a < 24 ∧ b < 24 ∧ x = nI a ∧ y = nI b := by
  rw [cell0] at h
  have h := Decidable.not_not.mp h
  obtain ⟨a, ha, e⟩ := nI_btw (x := x) (n := 23) h.1 h.2.1
  obtain ⟨b, hb, e'⟩ := nI_btw (x := y) (n := 23) h.2.2.1 h.2.2.2
  exact ⟨a, b, by omega, by omega, e, e'⟩
set_option maxHeartbeats 200000 in
theorem nat_of {x : Int32} {n : Nat} (h : ¬ f_X10_lies x 0 (nI n) = 0) (hn : n < 1000) : ∃ a, a ≤ n ∧ x = nI a := by
  rw [lies0, nI_toInt (show n < 2 ^ 31 by omega)] at h
  have h := Decidable.not_not.mp h
  exact nI_btw h.1 h.2
set_option maxHeartbeats 200000 in
theorem ask0 (x1 x2 x3 x4 x5 : Int32) (σ : St) : (f_X10_canAsk x1 x2 x3 x4 x5 σ = 0) ↔ (f_X10_isAuthor x1 = 0 ∨ f_X7_has x2 σ = 0 ∨ f_X6_isCell x3 x4 = 0 ∨ f_X10_isMinute x5 = 0) := by
  unfold f_X10_canAsk f_X10_canAsk_39
  by_cases c1 : f_X10_isAuthor x1 = 0
  · rw [if_pos c1]; exact ⟨fun _ => Or.inl c1, fun _ => rfl⟩
  · rw [if_neg c1]
    by_cases c2 : f_X7_has x2 σ = 0
    · rw [if_pos c2]; exact ⟨fun _ => Or.inr (Or.inl c2), fun _ => rfl⟩
    · rw [if_neg c2]
      by_cases c3 : f_X6_isCell x3 x4 = 0
      · rw [if_pos c3]; exact ⟨fun _ => Or.inr (Or.inr (Or.inl c3)), fun _ => rfl⟩
      · rw [if_neg c3]
        by_cases c4 : f_X10_isMinute x5 = 0
        · rw [if_pos c4]; exact ⟨fun _ => Or.inr (Or.inr (Or.inr c4)), fun _ => rfl⟩
        · rw [if_neg c4]
          refine ⟨fun h => absurd h (by decide), ?_⟩
          rintro (h | h | h | h)
          · exact absurd h c1
          · exact absurd h c2
          · exact absurd h c3
          · exact absurd h c4
set_option maxHeartbeats 200000 in
theorem authE (x : Int32) : f_X10_isAuthor x = 0 ↔ f_X11_in x.toInt64 0 2 = 0 := by rw [author0, in0, wdL]; exact Iff.rfl
set_option maxHeartbeats 200000 in
theorem what0 (x y : Int32) : (f_X11_isWhat x y = 0) ↔ (f_X10_isAuthor x = 0 ∨ f_X10_lies y 0 4 = 0) := by
  unfold f_X11_isWhat f_X11_isWhat_28
  have e : f_X10_lies y 0 4 = 0 ↔ f_X11_in y.toInt64 0 4 = 0 := by rw [lies0, in0, wdL]; exact Iff.rfl
  rw [authE, e]
  by_cases c1 : f_X11_in x.toInt64 0 2 = 0
  · rw [if_pos c1]; exact ⟨fun _ => Or.inl c1, fun _ => rfl⟩
  · rw [if_neg c1]
    by_cases c2 : f_X11_in y.toInt64 0 4 = 0
    · rw [if_pos c2]; exact ⟨fun _ => Or.inr c2, fun _ => rfl⟩
    · rw [if_neg c2]
      refine ⟨fun h => absurd h (by decide), ?_⟩
      rintro (h | h)
      · exact absurd h c1
      · exact absurd h c2
set_option maxHeartbeats 200000 in
theorem Op.ask {α : Type} {x1 x2 x3 x4 x5 x6 : Int32} {fc fm : Option (α × St)} {F G : List Nat × List Nat × List Nat} {σ τ : St} (hs : M_shp σ τ) (r : α) (h : ¬ f_X10_isAuthor x1 = 0 → ¬ f_X10_lies x2 0 4 = 0 → ¬ f_X7_has x3 σ = 0 → ¬ f_X6_isCell x4 x5 = 0 → ¬ f_X10_isMinute x6 = 0 → Op fc fm Tt F G σ τ) : Op (if f_X10_canAsk x1 x3 x4 x5 x6 σ = 0 then some (r, σ) else if f_X10_lies x2 0 4 = 0 then some (r, σ) else fc) (if f_X11_isWhat x1 x2 = 0 then some (r, τ) else if f_X11_isShip x3 τ = 0 then some (r, τ) else if f_X11_isCell x4 x5 = 0 then some (r, τ) else if f_X11_isMinute x6 = 0 then some (r, τ) else fm) Tt F G σ τ := by
  have no : ∀ fc' fm' : Option (α × St), fc' = some (r, σ) → fm' = some (r, τ) → Op fc' fm' Tt F G σ τ := fun _ _ a b => Op.no r a b trivial
  by_cases c1 : f_X10_isAuthor x1 = 0
  · refine no _ _ ?_ ?_
    · rw [if_pos ((ask0 ..).mpr (Or.inl c1))]
    · rw [if_pos ((what0 ..).mpr (Or.inl c1))]
  · by_cases c2 : f_X10_lies x2 0 4 = 0
    · refine no _ _ ?_ ?_
      · rw [if_pos c2]; split <;> rfl
      · rw [if_pos ((what0 ..).mpr (Or.inr c2))]
    · have w : ¬ f_X11_isWhat x1 x2 = 0 := fun z => ((what0 ..).mp z).elim c1 c2
      by_cases c3 : f_X7_has x3 σ = 0
      · refine no _ _ ?_ ?_
        · rw [if_pos ((ask0 ..).mpr (Or.inr (Or.inl c3)))]
        · rw [if_neg w, if_pos ((shipE hs _).mp c3)]
      · by_cases c4 : f_X6_isCell x4 x5 = 0
        · refine no _ _ ?_ ?_
          · rw [if_pos ((ask0 ..).mpr (Or.inr (Or.inr (Or.inl c4))))]
          · rw [if_neg w, if_neg (fun z => c3 ((shipE hs _).mpr z)), if_pos ((cellE _ _).mp c4)]
        · by_cases c5 : f_X10_isMinute x6 = 0
          · refine no _ _ ?_ ?_
            · rw [if_pos ((ask0 ..).mpr (Or.inr (Or.inr (Or.inr c5))))]
            · rw [if_neg w, if_neg (fun z => c3 ((shipE hs _).mpr z)), if_neg (fun z => c4 ((cellE _ _).mpr z)), if_pos ((minE _).mp c5)]
          · rw [if_neg (fun z => by rcases (ask0 ..).mp z with z | z | z | z; exact c1 z; exact c3 z; exact c4 z; exact c5 z), if_neg c2, if_neg w, if_neg (fun z => c3 ((shipE hs _).mpr z)), if_neg (fun z => c4 ((cellE _ _).mpr z)), if_neg (fun z => c5 ((minE _).mpr z))]
            exact h c1 c2 c3 c4 c5
set_option maxHeartbeats 200000 in
theorem auth_of {x : Int32} (h : ¬ f_X10_isAuthor x = 0) : ∃ a, a < 3 ∧ x = nI a := by
  rw [author0] at h
  have h := Decidable.not_not.mp h
  obtain ⟨a, ha, e⟩ := nI_btw (x := x) (n := 2) h.1 h.2
  exact ⟨a, by omega, e⟩
set_option maxHeartbeats 200000 in
theorem o_may (x1 x2 x3 x4 x5 x6 : Int32) {σ τ : St} (h : M_law σ τ) (hs : M_shp σ τ) (hd : M_dep σ τ) (hp : M_pts σ τ) : Op (f_X10_may x1 x2 x3 x4 x5 x6 σ) (f_X11_may x1 x2 x3 x4 x5 x6 τ) Tt ([], [], [11, 12, 44]) ([47, 48, 49, 50, 51], [], [33]) σ τ := by
  unfold f_X10_may f_X11_may
  refine Op.ask hs (-1) (fun c1 c2 c3 c4 c5 => ?_)
  obtain ⟨x, hx, rfl⟩ := auth_of c1
  obtain ⟨t, ht, rfl⟩ := nat_of (n := 4) c2 (by omega)
  obtain ⟨i, hi, rfl⟩ := ship_of hs c3
  obtain ⟨a, b, ha, hb, rfl, rfl⟩ := cell_of2 c4
  obtain ⟨m, hm, rfl⟩ := min_of c5
  obtain ⟨z, v, σ', τ', r1, r2, r3, r4, r5⟩ := do_both h hs hd hp hx ht c3 hi ha hb hm
  refine ⟨(if v = 0 then 0 else 1), σ', τ', ?_, ?_, trivial, r4, r5⟩
  · rw [r1, bS]
    show (f_X2_allows z (nI t) σ').bind _ = _
    rw [r2, bS, bndE]
  · rw [r3, bS, bndE]
set_option maxHeartbeats 200000 in
theorem o_by (x1 x2 x3 x4 x5 x6 : Int32) {σ τ : St} (h : M_law σ τ) (hs : M_shp σ τ) (hd : M_dep σ τ) (hp : M_pts σ τ) : Op (f_X10_by x1 x2 x3 x4 x5 x6 σ) (f_X11_by x1 x2 x3 x4 x5 x6 τ) Tt ([], [], [11, 12, 44]) ([47, 48, 49, 50, 51], [], [33]) σ τ := by
  unfold f_X10_by f_X11_by
  refine Op.ask hs (-1) (fun c1 c2 c3 c4 c5 => ?_)
  obtain ⟨x, hx, rfl⟩ := auth_of c1
  obtain ⟨t, ht, rfl⟩ := nat_of (n := 4) c2 (by omega)
  obtain ⟨i, hi, rfl⟩ := ship_of hs c3
  obtain ⟨a, b, ha, hb, rfl, rfl⟩ := cell_of2 c4
  obtain ⟨m, hm, rfl⟩ := min_of c5
  obtain ⟨L, ks, Ln, K, H, -⟩ := h
  obtain ⟨r, σ', τ', r1, r2, r3, r4, r5⟩ := may_both H hs hd hp hx ht c3 hi ha hb hm
  refine ⟨tJ r, σ', τ', by rw [r1, bS], ?_, trivial, r3, r4⟩
  rw [r2, bS]
  cases r with
  | none => rfl
  | some p =>
    obtain ⟨p1, p2, p3⟩ := r5 p rfl
    have hL := H.1
    have hCn := (H.2.2.2.2.2.1 p.1 p1).2.2.1.2.2.1
    show (if 0 ≤ nI (12 * p.1 + p.2) then some (16 * (nI (12 * p.1 + p.2) / 12) + (nI (12 * p.1 + p.2) - nI (12 * p.1 + p.2) / 12 * 12), τ') else some (-1, τ')) = some (nI (16 * p.1 + p.2), τ')
    rw [if_pos (show (0 : Int32) ≤ nI (12 * p.1 + p.2) from nI_le (a := 0) (Nat.zero_le _) (by omega)), div12 p.1 (by omega) p.2 (by omega), show nI p.1 * 12 = nI (p.1 * 12) from pk_mul p.1 12, pk_sub (show p.1 * 12 ≤ 12 * p.1 + p.2 by omega), show (16 : Int32) * nI p.1 + nI (12 * p.1 + p.2 - p.1 * 12) = _ from ixc 16 _ _]
    congr 3; omega
set_option maxHeartbeats 200000 in
theorem o_mesh (x1 x3 x4 x5 x6 : Int32) {σ τ : St} (h : M_law σ τ) (hs : M_shp σ τ) (hd : M_dep σ τ) : Op (f_X10_mesh x1 x3 x4 x5 x6 σ) (f_X11_mesh x1 x3 x4 x5 x6 τ) Tt ([], [], [11, 12, 44]) ([47, 48, 49, 50, 51], [], [33]) σ τ := by
  have e : f_X10_mesh x1 x3 x4 x5 x6 σ = (if f_X10_canAsk x1 x3 x4 x5 x6 σ = 0 then some (0, σ) else if f_X10_lies 0 0 4 = 0 then some (0, σ) else ((f_X10_meshFor x1 x3 x4 x5 x6 σ).bind fun u3 => some (u3.1, u3.2))) := by
    unfold f_X10_mesh
    rw [if_neg (show ¬ f_X10_lies 0 0 4 = 0 by decide)]
  rw [e]
  unfold f_X11_mesh f_X11_mesh_47
  refine Op.ask hs 0 (fun c1 c2 c3 c4 c5 => ?_)
  obtain ⟨x, hx, rfl⟩ := auth_of c1
  obtain ⟨i, hi, rfl⟩ := ship_of hs c3
  obtain ⟨a, b, ha, hb, rfl, rfl⟩ := cell_of2 c4
  obtain ⟨m, hm, rfl⟩ := min_of c5
  obtain ⟨L, ks, Ln, K, H, -⟩ := h
  obtain ⟨r, σ', τ', r1, r2, r3, r4⟩ := mesh_both (x := x) H hs hd c3 hi ha hb hm
  exact ⟨r, σ', τ', by rw [r1, bS], by rw [r2, bS], trivial, r3, r4⟩
