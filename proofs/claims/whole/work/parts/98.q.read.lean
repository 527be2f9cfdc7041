/-! the class's reading, all of it -/
section CG
variable {T : Nat → Nat} {n K Ln f d : Nat} {σ0 σ : St} {s : PS} {rc : Nat → Int32 → St → Option St} {ra : Nat → Nat → PS → PR}
set_option maxHeartbeats 200000 in
theorem valC (hL : Ln < 9000) (hK : K + 400 ≤ Ln) (H : HC T n K Ln σ0 f rc ra) (A : HA n f ra) (hd : d ≤ 10) (hf : 7 * (10 - d) + 7 - 6 < f + 1) (g : GdR n s) (h : CR T n K Ln σ0 σ s) : ∃ σ', f_X4_readValue rc (nI d) σ = some σ' ∧ CX T n K Ln σ0 (aVal T n ra d s) σ' := by
  have n4 := h.1.1
  have hl : K + s.2.2.length ≤ Ln := by have := g.1; have := g.2.1; omega
  have e40 : (gF σ 504 = 40) = (sym T n s.1 40 = true) := h.sy (c := 40) (by decide)
  have te := tkE_le (T := T) g.1
  have nb := nx_b (T := T) (n := n) g.1
  unfold f_X4_readValue aVal
  rw [h.wn, bS, if_pos h.ok]
  by_cases c1 : s.1 < n ∧ isDg (T s.1) = true
  · obtain ⟨v6, v7⟩ := h.2.1.2.2.2 c1.1 (dg_lo c1.2) c1.2
    rw [if_pos (h.dg.mpr c1), if_pos c1]
    unfold f_X4_readValue_44
    rw [if_pos (h.dg.mpr c1), show gF σ 507 = _ from v7]
    by_cases c2 : tkE T n s.1 - s.1 ≤ 5
    · rw [if_pos (show nI (tkE T n s.1 - s.1) ≤ 5 from by rw [show (5 : Int32) = nI 5 from rfl, nI_leE (by omega) (by omega)]; exact c2), if_pos c2]
      unfold f_X4_readValue_69
      rw [if_neg (show ¬ gF σ 504 = 40 from fun z => by rw [h.dg.mpr c1] at z; exact absurd z (by decide))]
      unfold one
      by_cases c3 : s.2.1 < 80
      · obtain ⟨σ1, a1, a2⟩ := h.cnt c3
        rw [if_pos c3, a1, bS, if_neg (show ¬ (1 : Int32) = 0 by decide)]
        obtain ⟨w6, w7⟩ := a2.2.1.2.2.2 c1.1 (dg_lo c1.2) c1.2
        obtain ⟨σ2, b1, b2⟩ := a2.emit (show K + s.2.2.length < Ln by have := g.2.1; omega) hL (nI (nvl T s.1 (tkE T n s.1 - s.1)))
        obtain ⟨σ3, d1, d2⟩ := b2.adv
        refine ⟨σ3, ?_, d2⟩
        show bnd (if gF σ1 504 = -3 then gF σ1 506 else _) _ = _
        rw [bndE, if_pos (a2.dg.mpr c1), show gF σ1 506 = _ from w6, b1, bS, d1, bS]
      · obtain ⟨σ1, a1, a2⟩ := h.cntN hl c3 g.2.2
        rw [if_neg c3, a1, bS, if_pos rfl]
        exact ⟨σ1, rfl, a2⟩
    · obtain ⟨σ1, a1, a2⟩ := h.fail hl (k := 1) (by decide)
      rw [if_neg (show ¬ nI (tkE T n s.1 - s.1) ≤ 5 from by rw [show (5 : Int32) = nI 5 from rfl, nI_leE (by omega) (by omega)]; exact c2), if_neg c2, show f_X4_fail 1 σ = _ from a1, bS]
      exact ⟨σ1, rfl, a2⟩
  · rw [if_neg (fun z => c1 (h.dg.mp z)), if_neg c1]
    by_cases c2 : sym T n s.1 40 = true
    · rw [if_pos (e40.mpr c2), if_pos c2]
      unfold f_X4_readValue_44
      rw [if_neg (fun z => c1 (h.dg.mp z))]
      unfold f_X4_readValue_69
      rw [if_pos (e40.mpr c2)]
      by_cases c3 : d < 10
      · rw [if_pos c3, h.deep c3, bS, if_neg (show ¬ (1 : Int32) = 0 by decide)]
        unfold one
        by_cases c4 : s.2.1 < 80
        · obtain ⟨σ1, a1, a2⟩ := h.cnt c4
          obtain ⟨σ2, b1, b2⟩ := a2.adv
          have g2 : GdR n (stp T n (s.1, s.2.1 + 1, s.2.2)) := ⟨nb.1, Nat.le_trans g.2.1 nb.2.1, c4⟩
          obtain ⟨σ3, d1, d2⟩ := H 4 (d + 1) _ σ2 (by omega) (by omega) (by omega) g2 b2
          rw [if_pos c4]
          show ∃ σ', ((f_X4_countsOneMore σ).bind _) = some σ' ∧ CX T n K Ln σ0 (bnR (ra 4 (d + 1) (stp T n (s.1, s.2.1 + 1, s.2.2))) _) σ'
          rw [a1, bS, if_neg (show ¬ (1 : Int32) = 0 by decide)]
          show ∃ σ', ((f_X4_advance σ1).bind _) = some σ' ∧ _
          rw [b1, bS, show nI d + 1 = nI (d + 1) from nI_add _ 1, d1, bS]
          cases e : ra 4 (d + 1) (stp T n (s.1, s.2.1 + 1, s.2.2)) with
          | inl fl =>
            rw [e] at d2
            exact ⟨σ3, by rw [CF.clo d2, bS], d2⟩
          | inr s2 =>
            rw [e] at d2
            have o2 := A 4 (d + 1) _ s2 (by omega) (by omega) (by omega) nb.1 (show s.2.1 + 1 ≤ 80 by omega) e
            have gs := o2.gd g2
            obtain ⟨σ4, k1, k2⟩ := CR.clo d2 (by have := gs.1; have := gs.2.1; omega) (c := 41) (by decide)
            exact ⟨σ4, by rw [show f_X4_readClosing 41 σ3 = _ from k1, bS], k2⟩
        · obtain ⟨σ1, a1, a2⟩ := h.cntN hl c4 g.2.2
          rw [if_neg c4]
          show ∃ σ', ((f_X4_countsOneMore σ).bind _) = some σ' ∧ _
          rw [a1, bS, if_pos rfl]
          exact ⟨σ1, rfl, a2⟩
      · obtain ⟨σ1, a1, a2⟩ := h.deepN hl c3 hd
        rw [if_neg c3, a1, bS, if_pos rfl]
        exact ⟨σ1, rfl, a2⟩
    · rw [if_neg (fun z => c2 (e40.mp z)), if_neg c2]
      cases gw : wno T n s.1 with
      | none =>
        obtain ⟨σ1, a1, a2⟩ := h.fail hl (k := 0) (by decide)
        rw [if_pos (show wv none = -1 from rfl), show f_X4_fail 0 σ = _ from a1, bS]
        exact ⟨σ1, rfl, a2⟩
      | some k =>
        obtain ⟨-, r2, r3⟩ := fnd_lt gw
        have pl := wdB_lt r3
        rw [if_neg (show ¬ wv (some k) = -1 from neg_nI (by omega) (by decide))]
        unfold f_X4_readValue_44
        rw [if_neg (fun z => c1 (h.dg.mp z))]
        unfold f_X4_readValue_69
        rw [if_neg (fun z => c2 (e40.mp z))]
        unfold one
        by_cases c3 : s.2.1 < 80
        · obtain ⟨σ1, a1, a2⟩ := h.cnt c3
          rw [a1, bS, if_neg (show ¬ (1 : Int32) = 0 by decide)]
          obtain ⟨σ2, b1, b2⟩ := a2.emit (show K + s.2.2.length < Ln by have := g.2.1; omega) hL (-1 - nI k)
          obtain ⟨σ3, d1, d2⟩ := b2.adv
          show ∃ σ', _ ∧ CX T n K Ln σ0 (if s.2.1 < 80 then _ else _) σ'
          rw [if_pos c3]
          refine ⟨σ3, ?_, d2⟩
          show bnd (if gF σ1 504 = -3 then _ else -1 - wv (some k)) _ = _
          rw [bndE, if_neg (fun z => c1 (a2.dg.mp z)), show wv (some k) = nI k from rfl, b1, bS, d1, bS]
        · obtain ⟨σ1, a1, a2⟩ := h.cntN hl c3 g.2.2
          show ∃ σ', _ ∧ CX T n K Ln σ0 (if s.2.1 < 80 then _ else _) σ'
          rw [if_neg c3, a1, bS, if_pos rfl]
          exact ⟨σ1, rfl, a2⟩
set_option maxHeartbeats 200000 in
theorem prodC (hL : Ln < 9000) (hK : K + 400 ≤ Ln) (H : HC T n K Ln σ0 f rc ra) (A : HA n f ra) (hd : d ≤ 10) (hf : 7 * (10 - d) + 7 - 5 < f + 1) (g : GdR n s) (h : CR T n K Ln σ0 σ s) : ∃ σ', f_X4_readProduct rc (nI d) σ = some σ' ∧ CX T n K Ln σ0 (aProd T n ra d s) σ' := by
  have H6 : ∀ s σ, GdR n s → CR T n K Ln σ0 σ s → ∃ σ', rc 6 (nI d) σ = some σ' ∧ CX T n K Ln σ0 (ra 6 d s) σ' := fun s σ => H 6 d s σ (by omega) hd (by omega)
  have A6 : ∀ s s', s.1 ≤ n → s.2.1 ≤ 80 → ra 6 d s = .inr s' → OkR n false s s' := fun s s' => A 6 d s s' (by omega) hd (by omega)
  have c2 : ∀ F x σ, ((400 : Int32) ≤ x ∨ ¬ gF σ 509 = 0) → f_X4_readProduct_7 rc (nI d) (F + 1) x σ = some σ := by
    intro F x σ hx
    rw [f_X4_readProduct_7]
    by_cases q : (400 : Int32) ≤ x
    · rw [if_pos q]
    · rw [if_neg q, if_neg (hx.resolve_left q)]
  have c1 : ∀ F x σ s, CR T n K Ln σ0 σ s → ¬ (400 : Int32) ≤ x → f_X4_readProduct_7 rc (nI d) (F + 1) x σ = match goP T n s with
      | none => some σ
      | some v => (f_X4_advance σ).bind fun σ1 => (rc 6 (nI d) σ1).bind fun σ2 => (f_X2_emit v σ2).bind fun σ3 => f_X4_readProduct_7 rc (nI d) F (x + 1) σ3 := by
    intro F x σ s h hx
    have e1 : (gF σ 504 = 42) = (sym T n s.1 42 = true) := h.sy (c := 42) (by decide)
    rw [f_X4_readProduct_7, if_neg hx, if_pos h.ok]
    unfold goP
    by_cases q : sym T n s.1 42 = true
    · rw [if_pos (e1.mpr q), if_pos q]; rfl
    · rw [if_neg (fun z => q (e1.mp z)), if_neg q]
  obtain ⟨σ1, a1, a2⟩ := H6 s σ g h
  unfold f_X4_readProduct aProd
  rw [a1, bS]
  cases e : ra 6 d s with
  | inl fl => rw [e] at a2; exact ⟨σ1, c2 _ 0 σ1 (Or.inr (CF.ne a2)), a2⟩
  | inr s1 =>
    rw [e] at a2
    exact loopC hL hK (rc := rc 6 (nI d)) (al := aProdL T n ra d) (r := ra 6 d) (fun _ => rfl) prod_s goP_g A6 H6 c1 c2 400 FU s s1 σ1 (by omega) (by unfold FU; omega) g (A6 s s1 g.1 g.2.2 e) a2
set_option maxHeartbeats 200000 in
theorem sumC (hL : Ln < 9000) (hK : K + 400 ≤ Ln) (H : HC T n K Ln σ0 f rc ra) (A : HA n f ra) (hd : d ≤ 10) (hf : 7 * (10 - d) + 7 - 4 < f + 1) (g : GdR n s) (h : CR T n K Ln σ0 σ s) : ∃ σ', f_X4_readSum rc (nI d) σ = some σ' ∧ CX T n K Ln σ0 (aSum T n ra d s) σ' := by
  have H6 : ∀ s σ, GdR n s → CR T n K Ln σ0 σ s → ∃ σ', rc 5 (nI d) σ = some σ' ∧ CX T n K Ln σ0 (ra 5 d s) σ' := fun s σ => H 5 d s σ (by omega) hd (by omega)
  have A6 : ∀ s s', s.1 ≤ n → s.2.1 ≤ 80 → ra 5 d s = .inr s' → OkR n false s s' := fun s s' => A 5 d s s' (by omega) hd (by omega)
  have c2 : ∀ F x σ, ((400 : Int32) ≤ x ∨ ¬ gF σ 509 = 0) → f_X4_readSum_7 rc (nI d) (F + 1) x σ = some σ := by
    intro F x σ hx
    rw [f_X4_readSum_7]
    by_cases q : (400 : Int32) ≤ x
    · rw [if_pos q]
    · rw [if_neg q, if_neg (hx.resolve_left q)]
  have c1 : ∀ F x σ s, CR T n K Ln σ0 σ s → ¬ (400 : Int32) ≤ x → f_X4_readSum_7 rc (nI d) (F + 1) x σ = match goS T n s with
      | none => some σ
      | some v => (f_X4_advance σ).bind fun σ1 => (rc 5 (nI d) σ1).bind fun σ2 => (f_X2_emit v σ2).bind fun σ3 => f_X4_readSum_7 rc (nI d) F (x + 1) σ3 := by
    intro F x σ s h hx
    have e1 : (gF σ 504 = 43) = (sym T n s.1 43 = true) := h.sy (c := 43) (by decide)
    have e2 : (gF σ 504 = 45) = (sym T n s.1 45 = true) := h.sy (c := 45) (by decide)
    rw [f_X4_readSum_7, if_neg hx, if_pos h.ok]
    unfold goS f_X4_readSum_39
    by_cases q : sym T n s.1 43 = true
    · rw [if_pos (e1.mpr q), if_pos q, if_pos (e1.mpr q)]; rfl
    · rw [if_neg (fun z => q (e1.mp z)), if_neg q]
      by_cases q2 : sym T n s.1 45 = true
      · rw [if_pos (e2.mpr q2), if_pos q2, if_neg (fun z => q (e1.mp z))]; rfl
      · rw [if_neg (fun z => q2 (e2.mp z)), if_neg q2]
  obtain ⟨σ1, a1, a2⟩ := H6 s σ g h
  unfold f_X4_readSum aSum
  rw [a1, bS]
  cases e : ra 5 d s with
  | inl fl => rw [e] at a2; exact ⟨σ1, c2 _ 0 σ1 (Or.inr (CF.ne a2)), a2⟩
  | inr s1 =>
    rw [e] at a2
    exact loopC hL hK (rc := rc 5 (nI d)) (al := aSumL T n ra d) (r := ra 5 d) (fun _ => rfl) sum_s goS_g A6 H6 c1 c2 400 FU s s1 σ1 (by omega) (by unfold FU; omega) g (A6 s s1 g.1 g.2.2 e) a2
set_option maxHeartbeats 200000 in
theorem partC (hL : Ln < 9000) (hK : K + 400 ≤ Ln) (H : HC T n K Ln σ0 f rc ra) (A : HA n f ra) (hd : d ≤ 10) (hf : 7 * (10 - d) + 7 - 1 < f + 1) (g : GdR n s) (h : CR T n K Ln σ0 σ s) : ∃ σ', f_X4_readPart rc (nI d) σ = some σ' ∧ CX T n K Ln σ0 (aPart T n ra d s) σ' := by
  have H6 : ∀ s σ, GdR n s → CR T n K Ln σ0 σ s → ∃ σ', rc 2 (nI d) σ = some σ' ∧ CX T n K Ln σ0 (ra 2 d s) σ' := fun s σ => H 2 d s σ (by omega) hd (by omega)
  have A6 : ∀ s s', s.1 ≤ n → s.2.1 ≤ 80 → ra 2 d s = .inr s' → OkR n true s s' := fun s s' => A 2 d s s' (by omega) hd (by omega)
  have c2 : ∀ F x σ, ((400 : Int32) ≤ x ∨ ¬ gF σ 509 = 0) → f_X4_readPart_7 rc (nI d) (F + 1) x σ = some σ := by
    intro F x σ hx
    rw [f_X4_readPart_7]
    by_cases q : (400 : Int32) ≤ x
    · rw [if_pos q]
    · rw [if_neg q, if_neg (hx.resolve_left q)]
  have c1 : ∀ F x σ s, CR T n K Ln σ0 σ s → ¬ (400 : Int32) ≤ x → f_X4_readPart_7 rc (nI d) (F + 1) x σ = match goA T n s with
      | none => some σ
      | some v => (f_X4_advance σ).bind fun σ1 => (rc 2 (nI d) σ1).bind fun σ2 => (f_X2_emit v σ2).bind fun σ3 => f_X4_readPart_7 rc (nI d) F (x + 1) σ3 := by
    intro F x σ s h hx
    rw [f_X4_readPart_7, if_neg hx, if_pos h.ok, h.wd (w := 13) (by decide), bS]
    unfold goA
    by_cases q : wdB T n s.1 (wl_ 13) = true
    · rw [if_pos q, if_pos q, if_neg (show ¬ (1 : Int32) = 0 by decide)]; rfl
    · rw [if_neg q, if_neg q, if_pos rfl]
  obtain ⟨σ1, a1, a2⟩ := H6 s σ g h
  unfold f_X4_readPart aPart
  rw [a1, bS]
  cases e : ra 2 d s with
  | inl fl => rw [e] at a2; exact ⟨σ1, c2 _ 0 σ1 (Or.inr (CF.ne a2)), a2⟩
  | inr s1 =>
    rw [e] at a2
    exact loopC hL hK (rc := rc 2 (nI d)) (al := aPartL T n ra d) (r := ra 2 d) (fun _ => rfl) part_s goA_g A6 H6 c1 c2 400 FU s s1 σ1 (by omega) (by unfold FU; omega) g (A6 s s1 g.1 g.2.2 e) a2
set_option maxHeartbeats 200000 in
theorem testC (hL : Ln < 9000) (hK : K + 400 ≤ Ln) (H : HC T n K Ln σ0 f rc ra) (A : HA n f ra) (hd : d ≤ 10) (hf : 7 * (10 - d) + 7 - 0 < f + 1) (g : GdR n s) (h : CR T n K Ln σ0 σ s) : ∃ σ', f_X4_readTest rc (nI d) σ = some σ' ∧ CX T n K Ln σ0 (aTest T n ra d s) σ' := by
  have H6 : ∀ s σ, GdR n s → CR T n K Ln σ0 σ s → ∃ σ', rc 1 (nI d) σ = some σ' ∧ CX T n K Ln σ0 (ra 1 d s) σ' := fun s σ => H 1 d s σ (by omega) hd (by omega)
  have A6 : ∀ s s', s.1 ≤ n → s.2.1 ≤ 80 → ra 1 d s = .inr s' → OkR n true s s' := fun s s' => A 1 d s s' (by omega) hd (by omega)
  have c2 : ∀ F x σ, ((400 : Int32) ≤ x ∨ ¬ gF σ 509 = 0) → f_X4_readTest_7 rc (nI d) (F + 1) x σ = some σ := by
    intro F x σ hx
    rw [f_X4_readTest_7]
    by_cases q : (400 : Int32) ≤ x
    · rw [if_pos q]
    · rw [if_neg q, if_neg (hx.resolve_left q)]
  have c1 : ∀ F x σ s, CR T n K Ln σ0 σ s → ¬ (400 : Int32) ≤ x → f_X4_readTest_7 rc (nI d) (F + 1) x σ = match goO T n s with
      | none => some σ
      | some v => (f_X4_advance σ).bind fun σ1 => (rc 1 (nI d) σ1).bind fun σ2 => (f_X2_emit v σ2).bind fun σ3 => f_X4_readTest_7 rc (nI d) F (x + 1) σ3 := by
    intro F x σ s h hx
    rw [f_X4_readTest_7, if_neg hx, if_pos h.ok, h.wd (w := 12) (by decide), bS]
    unfold goO
    by_cases q : wdB T n s.1 (wl_ 12) = true
    · rw [if_pos q, if_pos q, if_neg (show ¬ (1 : Int32) = 0 by decide)]; rfl
    · rw [if_neg q, if_neg q, if_pos rfl]
  obtain ⟨σ1, a1, a2⟩ := H6 s σ g h
  unfold f_X4_readTest aTest
  rw [a1, bS]
  cases e : ra 1 d s with
  | inl fl => rw [e] at a2; exact ⟨σ1, c2 _ 0 σ1 (Or.inr (CF.ne a2)), a2⟩
  | inr s1 =>
    rw [e] at a2
    exact loopC hL hK (rc := rc 1 (nI d)) (al := aTestL T n ra d) (r := ra 1 d) (fun _ => rfl) test_s goO_g A6 H6 c1 c2 400 FU s s1 σ1 (by omega) (by unfold FU; omega) g (A6 s s1 g.1 g.2.2 e) a2
set_option maxHeartbeats 200000 in
theorem cmpC (hL : Ln < 9000) (hK : K + 400 ≤ Ln) (H : HC T n K Ln σ0 f rc ra) (A : HA n f ra) (hd : d ≤ 10) (hf : 7 * (10 - d) + 7 - 3 < f + 1) (g : GdR n s) (h : CR T n K Ln σ0 σ s) : ∃ σ', f_X4_readComparison rc (nI d) σ = some σ' ∧ CX T n K Ln σ0 (aCmp T n ra d s) σ' := by
  have n4 := h.1.1
  obtain ⟨σ1, a1, a2⟩ := H 4 d s σ (by omega) hd (by omega) g h
  unfold f_X4_readComparison aCmp
  rw [a1, bS]
  cases e : ra 4 d s with
  | inl fl =>
    rw [e] at a2
    rw [bndE, if_neg (CF.ne a2)]
    exact ⟨σ1, rfl, a2⟩
  | inr s1 =>
    rw [e] at a2
    have a2 : CR T n K Ln σ0 σ1 s1 := a2
    have o1 : OkR n false s s1 := A 4 d s s1 (by omega) hd (by omega) g.1 g.2.2 e
    have g1 := o1.gd g
    have hl : K + s1.2.2.length ≤ Ln := by have := g1.1; have := g1.2.1; omega
    have nb := nx_b (T := T) (n := n) g1.1
    rw [bndE, if_pos a2.ok, show gF σ1 504 = _ from a2.2.1.2.1]
    show ∃ σ', _ ∧ CX T n K Ln σ0 (if f_X4_comparisonOf (tkK T n s1.1) = -1 then _ else _) σ'
    by_cases c : f_X4_comparisonOf (tkK T n s1.1) = -1
    · obtain ⟨σ2, b1, b2⟩ := a2.fail hl (k := 0) (by decide)
      rw [if_pos c, if_pos c, show f_X4_fail 0 σ1 = _ from b1, bS]
      exact ⟨σ2, rfl, b2⟩
    · rw [if_neg c, if_neg c]
      unfold one
      by_cases c4 : s1.2.1 < 80
      · obtain ⟨σ2, b1, b2⟩ := a2.cnt c4
        obtain ⟨σ3, d1, d2⟩ := b2.adv
        have g2 : GdR n (stp T n (s1.1, s1.2.1 + 1, s1.2.2)) := ⟨nb.1, Nat.le_trans g1.2.1 nb.2.1, c4⟩
        obtain ⟨σ4, k1, k2⟩ := H 4 d _ σ3 (by omega) hd (by omega) g2 d2
        rw [if_pos c4, b1, bS, if_neg (show ¬ (1 : Int32) = 0 by decide)]
        show ∃ σ', ((f_X4_advance σ2).bind _) = some σ' ∧ CX T n K Ln σ0 (bnR (ra 4 d (stp T n (s1.1, s1.2.1 + 1, s1.2.2))) _) σ'
        rw [d1, bS, k1, bS]
        cases e2 : ra 4 d (stp T n (s1.1, s1.2.1 + 1, s1.2.2)) with
        | inl fl =>
          rw [e2] at k2
          obtain ⟨σ5, y1, y2⟩ := CF.emit k2 hL (f_X4_comparisonOf (tkK T n s1.1))
          exact ⟨σ5, by rw [y1, bS], y2⟩
        | inr s2 =>
          rw [e2] at k2
          have o2 : OkR n false (stp T n (s1.1, s1.2.1 + 1, s1.2.2)) s2 := A 4 d _ s2 (by omega) hd (by omega) nb.1 (show s1.2.1 + 1 ≤ 80 by omega) e2
          have o3 : OkR n true s (lay (f_X4_comparisonOf (tkK T n s1.1)) s2) := OkR.join (s1 := stp T n (s1.1, s1.2.1 + 1, s1.2.2)) o1 (nb.2.2 (cmp_lt c)) (Nat.le_succ _) rfl o2 (cmp_ty c).1 (cmp_ty c).2
          have gl := o3.gd g
          have l1 : (s2.2.2 ++ [f_X4_comparisonOf (tkK T n s1.1)]).length ≤ n := Nat.le_trans gl.2.1 gl.1
          rw [List.length_append] at l1
          have l1 : s2.2.2.length + 1 ≤ n := l1
          obtain ⟨σ5, y1, y2⟩ := CR.emit k2 (by omega) hL (f_X4_comparisonOf (tkK T n s1.1))
          exact ⟨σ5, by rw [y1, bS], y2⟩
      · obtain ⟨σ2, b1, b2⟩ := a2.cntN hl c4 g1.2.2
        rw [if_neg c4, b1, bS, if_pos rfl]
        exact ⟨σ2, rfl, b2⟩
set_option maxHeartbeats 200000 in
theorem factC (hL : Ln < 9000) (hK : K + 400 ≤ Ln) (H : HC T n K Ln σ0 f rc ra) (A : HA n f ra) (hd : d ≤ 10) (hf : 7 * (10 - d) + 7 - 2 < f + 1) (g : GdR n s) (h : CR T n K Ln σ0 σ s) : ∃ σ', f_X4_readFact rc (nI d) σ = some σ' ∧ CX T n K Ln σ0 (aFact T n ra d s) σ' := by
  have n4 := h.1.1
  have hl : K + s.2.2.length ≤ Ln := by have := g.1; have := g.2.1; omega
  have nb := nx_b (T := T) (n := n) g.1
  have g2 : GdR n (stp T n s) := ⟨nb.1, Nat.le_trans g.2.1 nb.2.1, g.2.2⟩
  have e1 : (gF σ 504 = 91) = (sym T n s.1 91 = true) := h.sy (c := 91) (by decide)
  unfold f_X4_readFact aFact
  rw [h.wd (w := 14) (by decide), bS]
  by_cases c1 : wdB T n s.1 (wl_ 14) = true
  · rw [if_pos c1, if_pos c1, if_neg (show ¬ (1 : Int32) = 0 by decide)]
    by_cases c3 : d < 10
    · obtain ⟨σ1, a1, a2⟩ := h.adv
      obtain ⟨σ2, b1, b2⟩ := H 2 (d + 1) _ σ1 (by omega) (by omega) (by omega) g2 a2
      rw [if_pos c3, h.deep c3, bS, if_neg (show ¬ (1 : Int32) = 0 by decide)]
      show ∃ σ', ((f_X4_advance σ).bind _) = some σ' ∧ _
      rw [a1, bS, show nI d + 1 = nI (d + 1) from nI_add _ 1, b1, bS]
      cases e : ra 2 (d + 1) (stp T n s) with
      | inl fl =>
        rw [e] at b2
        obtain ⟨σ5, y1, y2⟩ := CF.emit b2 hL (-10)
        exact ⟨σ5, by rw [y1, bS], y2⟩
      | inr s2 =>
        rw [e] at b2
        have o2 : OkR n true (stp T n s) s2 := A 2 (d + 1) _ s2 (by omega) (by omega) (by omega) nb.1 g.2.2 e
        have o3 : OkR n true s (lay (-10) s2) := OkR.no (s1 := stp T n s) (nb.2.2 (wdB_lt c1)) (Nat.le_refl _) rfl o2
        have gl := o3.gd g
        have l1 : (s2.2.2 ++ [(-10 : Int32)]).length ≤ n := Nat.le_trans gl.2.1 gl.1
        rw [List.length_append] at l1
        have l1 : s2.2.2.length + 1 ≤ n := l1
        obtain ⟨σ5, y1, y2⟩ := CR.emit b2 (by omega) hL (-10)
        exact ⟨σ5, by rw [y1, bS], y2⟩
    · obtain ⟨σ1, a1, a2⟩ := h.deepN hl c3 hd
      rw [if_neg c3, a1, bS, if_pos rfl]
      exact ⟨σ1, rfl, a2⟩
  · rw [if_neg c1, if_neg c1, if_pos rfl]
    by_cases c2 : sym T n s.1 91 = true
    · rw [if_pos (e1.mpr c2), if_pos c2]
      by_cases c3 : d < 10
      · obtain ⟨σ1, a1, a2⟩ := h.adv
        obtain ⟨σ2, b1, b2⟩ := H 0 (d + 1) _ σ1 (by omega) (by omega) (by omega) g2 a2
        rw [if_pos c3, h.deep c3, bS, if_neg (show ¬ (1 : Int32) = 0 by decide)]
        show ∃ σ', ((f_X4_advance σ).bind _) = some σ' ∧ _
        rw [a1, bS, show nI d + 1 = nI (d + 1) from nI_add _ 1, b1, bS]
        cases e : ra 0 (d + 1) (stp T n s) with
        | inl fl =>
          rw [e] at b2
          exact ⟨σ2, by rw [CF.clo b2, bS], b2⟩
        | inr s2 =>
          rw [e] at b2
          have o2 : OkR n true (stp T n s) s2 := A 0 (d + 1) _ s2 (by omega) (by omega) (by omega) nb.1 g.2.2 e
          have gs := o2.gd g2
          obtain ⟨σ4, k1, k2⟩ := CR.clo b2 (by have := gs.1; have := gs.2.1; omega) (c := 93) (by decide)
          exact ⟨σ4, by rw [show f_X4_readClosing 93 σ2 = _ from k1, bS], k2⟩
      · obtain ⟨σ1, a1, a2⟩ := h.deepN hl c3 hd
        rw [if_neg c3, a1, bS, if_pos rfl]
        exact ⟨σ1, rfl, a2⟩
    · obtain ⟨σ1, a1, a2⟩ := H 3 d s σ (by omega) hd (by omega) g h
      rw [if_neg (fun z => c2 (e1.mp z)), if_neg c2, a1, bS]
      exact ⟨σ1, rfl, a2⟩
set_option maxHeartbeats 200000 in
theorem RG_ok (hT : ∀ i, T i < 256) (hL : Ln < 9000) (hK : K + 400 ≤ Ln) : ∀ f, HC T n K Ln σ0 f (RG f) (AG T n f) := by
  intro f
  induction f with
  | zero => intro w d s s' _ _ h; omega
  | succ f ih =>
    intro w d s σ hw hd hf g h
    have A := AG_ok (n := n) hT f
    obtain rfl | rfl | rfl | rfl | rfl | rfl | rfl : w = 0 ∨ w = 1 ∨ w = 2 ∨ w = 3 ∨ w = 4 ∨ w = 5 ∨ w = 6 := by omega
    · exact testC hL hK ih A hd hf g h
    · exact partC hL hK ih A hd hf g h
    · exact factC hL hK ih A hd hf g h
    · exact cmpC hL hK ih A hd hf g h
    · exact sumC hL hK ih A hd hf g h
    · exact prodC hL hK ih A hd hf g h
    · exact valC hL hK ih A hd hf g h
end CG
