/-! the reference's comparisons -/
set_option maxHeartbeats 200000 in
theorem cmp_in {x : Int32} (h : ¬ f_X4_comparisonOf x = -1) : x = 60 ∨ x = 61 ∨ x = 62 ∨ x = 316 ∨ x = 318 := by
  unfold f_X4_comparisonOf at h
  by_cases c1 : x = 60
  · exact Or.inl c1
  · rw [if_neg c1] at h
    by_cases c2 : x = 61
    · exact Or.inr (Or.inl c2)
    · rw [if_neg c2] at h
      by_cases c3 : x = 62
      · exact Or.inr (Or.inr (Or.inl c3))
      · rw [if_neg c3] at h
        by_cases c4 : x = 316
        · exact Or.inr (Or.inr (Or.inr (Or.inl c4)))
        · rw [if_neg c4] at h
          by_cases c5 : x = 318
          · exact Or.inr (Or.inr (Or.inr (Or.inr c5)))
          · rw [if_neg c5] at h; exact absurd rfl h
set_option maxHeartbeats 200000 in
theorem cmp_T {T : Nat → Nat} {n p : Nat} (hT : T p < 256) (h : ¬ f_X4_comparisonOf (tkK T n p) = -1) : T p = 60 ∨ T p = 61 ∨ T p = 62 := by
  have hp := cmp_lt h
  have key : ∀ m, m < 1000 → tkK T n p = nI m → m = T p ∨ (T p = 60 ∨ T p = 62) := by
    intro m hm z
    unfold tkK at z
    rw [if_pos hp] at z
    by_cases l : isLo (T p) = true
    · rw [if_pos l] at z; exact absurd z.symm (neg_nI (by omega) (by decide))
    · rw [if_neg l] at z
      by_cases g : isDg (T p) = true
      · rw [if_pos g] at z; exact absurd z.symm (neg_nI (by omega) (by decide))
      · rw [if_neg g] at z
        split at z
        · next w => exact Or.inr w.1
        · rw [nI_eqE (by omega) (by omega)] at z; exact Or.inl z.symm
  rcases cmp_in h with z | z | z | z | z
  · have := key 60 (by omega) z; omega
  · have := key 61 (by omega) z; omega
  · have := key 62 (by omega) z; omega
  · have := key 316 (by omega) z; omega
  · have := key 318 (by omega) z; omega
section FC
variable {T : Nat → Nat} {n k f d q : Nat} {τ0 τ : St} {s : PS} {W : List Int32}
set_option maxHeartbeats 200000 in
theorem to152 (hT : ∀ i, T i < 256) (h : MR T n k τ0 τ s.1 s d W) (hm : s.2.1 < 80) (hc : ¬ f_X4_comparisonOf (tkK T n s.1) = -1) : ∃ (y : Int32) (τ4 : St) (q4 : Nat), f_X11_fact_44 (byI T n s.1) (nI s.1) τ = f_X11_fact_152 y τ4 ∧ MR T n k τ0 τ4 q4 (stp T n (s.1, s.2.1 + 1, s.2.2)) d W ∧ opM (f_X4_comparisonOf (tkK T n s.1)) = 5 + y ∧ agM (f_X4_comparisonOf (tkK T n s.1)) = 0 := by
  have hp := cmp_lt hc
  have n4 := h.1.1
  have hTp := cmp_T (hT _) hc
  obtain ⟨τ1, a1, a2⟩ := h.makes hm (nI s.1)
  have lo : isLo (T s.1) = false := decide_eq_false (by omega)
  have dg : isDg (T s.1) = false := decide_eq_false (by omega)
  have m1 : MR T n k τ0 (sF τ1 38 (nI (s.1 + 1))) (s.1 + 1) (ev T n isSp (s.1 + 1), s.2.1 + 1, s.2.2) d W := a2.mv (Fr.rf.wF (by decide)) rfl (by omega) rfl
  have st : f_X11_fact_44 (byI T n s.1) (nI s.1) τ = if nI (T s.1) = 61 then f_X11_fact_99 (nI (T s.1)) (sF τ1 38 (nI (s.1 + 1))) else if nI n ≤ nI (s.1 + 1) then f_X11_fact_99 (nI (T s.1)) (sF τ1 38 (nI (s.1 + 1))) else (rd tM (sF τ1 38 (nI (s.1 + 1))) 18 (nI (s.1 + 1))).bind fun v27 => if v27 = 61 then f_X11_fact_100 (nI (T s.1)) 1 (sF τ1 38 (nI (s.1 + 1))) else f_X11_fact_99 (nI (T s.1)) (sF τ1 38 (nI (s.1 + 1))) := by
    unfold f_X11_fact_44
    rw [a1, bS, if_neg (show ¬ (1 : Int32) = 0 by decide), show byI T n s.1 = nI (T s.1) from if_pos hp]
    show bnd (sF τ1 38 (gF τ1 38 + 1)) _ = _
    rw [bndE, show gF τ1 38 = _ from a2.2.1.2.1, show nI s.1 + 1 = nI (s.1 + 1) from nI_add _ 1, show gF (sF τ1 38 (nI (s.1 + 1))) 24 = _ from a2.1.2.1, show gF (sF τ1 38 (nI (s.1 + 1))) 38 = nI (s.1 + 1) from rfl]
  have e99 : ∀ x σ, f_X11_fact_99 x σ = f_X11_fact_115 x 0 σ := fun x σ => by unfold f_X11_fact_99 f_X11_fact_100; rw [if_pos rfl]
  have tk1 : ¬ ((T s.1 = 60 ∨ T s.1 = 62) ∧ s.1 + 1 < n ∧ T (s.1 + 1) = 61) → tkE T n s.1 = s.1 + 1 ∧ tkK T n s.1 = nI (T s.1) := by
    intro z
    unfold tkE tkK
    rw [if_pos hp, if_neg (by rw [lo]; decide), if_neg (by rw [dg]; decide), if_neg z, if_pos hp, if_neg (by rw [lo]; decide), if_neg (by rw [dg]; decide), if_neg z]
    exact ⟨rfl, rfl⟩
  have plain : ¬ ((T s.1 = 60 ∨ T s.1 = 62) ∧ s.1 + 1 < n ∧ T (s.1 + 1) = 61) → f_X11_fact_44 (byI T n s.1) (nI s.1) τ = f_X11_fact_115 (nI (T s.1)) 0 (sF τ1 38 (nI (s.1 + 1))) → ∃ (y : Int32) (τ4 : St) (q4 : Nat), f_X11_fact_44 (byI T n s.1) (nI s.1) τ = f_X11_fact_152 y τ4 ∧ MR T n k τ0 τ4 q4 (stp T n (s.1, s.2.1 + 1, s.2.2)) d W ∧ opM (f_X4_comparisonOf (tkK T n s.1)) = 5 + y ∧ agM (f_X4_comparisonOf (tkK T n s.1)) = 0 := by
    intro z1 z2
    obtain ⟨t1, t2⟩ := tk1 z1
    have mm : MR T n k τ0 (sF τ1 38 (nI (s.1 + 1))) (s.1 + 1) (stp T n (s.1, s.2.1 + 1, s.2.2)) d W := by
      have : nx T n s.1 = ev T n isSp (s.1 + 1) := by unfold nx; rw [t1]
      show MR T n k τ0 (sF τ1 38 (nI (s.1 + 1))) (s.1 + 1) (nx T n s.1, s.2.1 + 1, s.2.2) d W
      rw [this]; exact m1
    rw [z2, t2]
    unfold f_X11_fact_115
    rcases hTp with w | w | w
    · rw [w]; exact ⟨0, _, _, rfl, mm, by decide, by decide⟩
    · rw [w]; exact ⟨2, _, _, rfl, mm, by decide, by decide⟩
    · rw [w]; exact ⟨4, _, _, rfl, mm, by decide, by decide⟩
  have i61 : (nI (T s.1) = 61) = (T s.1 = 61) := nI_eqE (b := 61) (by omega) (by omega)
  by_cases c1 : T s.1 = 61
  · rw [if_pos (i61.mpr c1), e99] at st
    exact plain (by omega) st
  · rw [if_neg (fun z => c1 (i61.mp z))] at st
    by_cases c2 : s.1 + 1 < n
    · rw [if_neg (show ¬ nI n ≤ nI (s.1 + 1) from by rw [nI_leE (by omega) (by omega)]; omega), rdM_18 (by omega), bS, show (sF τ1 38 (nI (s.1 + 1))).2.1 18 (s.1 + 1) = _ from a2.1.2.2.2 _] at st
      have b61 : (b8 (T (s.1 + 1)) = 61) = (T (s.1 + 1) = 61) := b8_eq (k := 61) (hT _) (by omega)
      by_cases c3 : T (s.1 + 1) = 61
      · rw [if_pos (b61.mpr c3)] at st
        have z1 : (T s.1 = 60 ∨ T s.1 = 62) ∧ s.1 + 1 < n ∧ T (s.1 + 1) = 61 := ⟨by omega, c2, c3⟩
        have t1 : tkE T n s.1 = s.1 + 2 := by
          unfold tkE
          rw [if_pos hp, if_neg (by rw [lo]; decide), if_neg (by rw [dg]; decide), if_pos z1]
        have t2 : tkK T n s.1 = nI (T s.1 + 256) := by
          unfold tkK
          rw [if_pos hp, if_neg (by rw [lo]; decide), if_neg (by rw [dg]; decide), if_pos z1]
        have m2 : MR T n k τ0 (sF (sF τ1 38 (nI (s.1 + 1))) 38 (nI (s.1 + 2))) (s.1 + 2) (stp T n (s.1, s.2.1 + 1, s.2.2)) d W := a2.mv ((Fr.rf.wF (by decide)).wF (by decide)) rfl (by omega) (by show _ = ev T n isSp (tkE T n s.1); rw [t1])
        unfold f_X11_fact_100 at st
        rw [if_neg (show ¬ (1 : Int32) = 0 by decide), bndE, show gF (sF τ1 38 (nI (s.1 + 1))) 38 = nI (s.1 + 1) from rfl, show nI (s.1 + 1) + 1 = nI (s.1 + 2) from nI_add _ 1] at st
        rw [st, t2]
        unfold f_X11_fact_115
        rcases hTp with w | w | w
        · rw [w]; exact ⟨1, _, _, rfl, m2, by decide, by decide⟩
        · exact absurd w c1
        · rw [w]; exact ⟨3, _, _, rfl, m2, by decide, by decide⟩
      · rw [if_neg (fun z => c3 (b61.mp z)), e99] at st
        exact plain (fun z => c3 z.2.2) st
    · rw [if_pos (show nI n ≤ nI (s.1 + 1) from nI_le (by omega) (by omega)), e99] at st
      exact plain (fun z => c2 z.2.1) st
set_option maxHeartbeats 200000 in
theorem factM (hc : CnM τ0) (hT : ∀ i, T i < 256) (hd : d ≤ 10) (hf : 7 * (10 - d) + 7 - 3 < f + 1) (g : GdR n s) (hW : W.length ≤ s.1) (h : MR T n k τ0 τ q s d W) : RF T n k τ0 (f_X11_fact τ) (aCmp T n (AG T n f) d s) (QE T n k τ0 d W) := by
  have A := AG_ok (n := n) hT f
  have n4 := h.1.1
  have hv := sumAll hc hT (f := f) hd (by omega) g hW h
  unfold f_X11_fact aCmp
  cases e : AG T n f 4 d s with
  | inl fl =>
    rw [e] at hv
    obtain ⟨τ1, r1, r2⟩ := hv
    exact ⟨τ1, by rw [r1, bS, if_pos rfl], r2⟩
  | inr s1 =>
    rw [e] at hv
    obtain ⟨τ1, q1, r1, r2⟩ := hv
    have o1 : OkR n false s s1 := A 4 d s s1 (by omega) hd (by omega) g.1 g.2.2 e
    have o11 := o1.1
    have g1 := o1.gd g
    have nb := nx_b (T := T) (n := n) g1.1
    obtain ⟨τ2, a1, a2⟩ := r2.see
    rw [r1, bS, if_neg (show ¬ (1 : Int32) = 0 by decide)]
    show RF T n k τ0 ((f_X11_see τ1).bind _) (if f_X4_comparisonOf (tkK T n s1.1) = -1 then _ else _) _
    rw [a1, bS]
    show RF T n k τ0 (bnd (gF τ2 38) fun v23 => if byI T n s1.1 = 60 then f_X11_fact_44 (byI T n s1.1) v23 τ2 else if byI T n s1.1 = 61 then f_X11_fact_44 (byI T n s1.1) v23 τ2 else if byI T n s1.1 = 62 then f_X11_fact_44 (byI T n s1.1) v23 τ2 else (f_X11_fails 0 v23 τ2).bind fun u24 => some (vp_nar .boolean u24.1, u24.2)) _ _
    rw [bndE, show gF τ2 38 = _ from a2.2.1.2.1]
    have i60 : (byI T n s1.1 = 60) = (sym T n s1.1 60 = true) := byI_sym (c := 60) (hT _) (by decide)
    have i61 : (byI T n s1.1 = 61) = (sym T n s1.1 61 = true) := byI_sym (c := 61) (hT _) (by decide)
    have i62 : (byI T n s1.1 = 62) = (sym T n s1.1 62 = true) := byI_sym (c := 62) (hT _) (by decide)
    by_cases c : f_X4_comparisonOf (tkK T n s1.1) = -1
    · have no : ∀ x, (x = 60 ∨ x = 61 ∨ x = 62) → ¬ sym T n s1.1 x = true := by
        intro x hx z
        obtain ⟨z1, z2⟩ := of_decide_eq_true z
        have lo : isLo (T s1.1) = false := decide_eq_false (by omega)
        have dg : isDg (T s1.1) = false := decide_eq_false (by omega)
        unfold tkK at c
        rw [if_pos z1, if_neg (by rw [lo]; decide), if_neg (by rw [dg]; decide), z2] at c
        split at c
        · next w => rcases w.1 with u | u <;> rw [u] at c <;> exact absurd c (by decide)
        · rcases hx with u | u | u <;> rw [u] at c <;> exact absurd c (by decide)
      obtain ⟨τ3, b1, b2⟩ := a2.fail 0 s1.1
      rw [if_pos c, if_neg (fun z => no 60 (by omega) (i60.mp z)), if_neg (fun z => no 61 (by omega) (i61.mp z)), if_neg (fun z => no 62 (by omega) (i62.mp z)), show f_X11_fails 0 (nI s1.1) τ2 = _ from b1, bS, nar0]
      exact ⟨τ3, rfl, b2⟩
    · have hp := cmp_lt c
      have hTp := cmp_T (hT _) c
      have e44 : (if byI T n s1.1 = 60 then f_X11_fact_44 (byI T n s1.1) (nI s1.1) τ2 else if byI T n s1.1 = 61 then f_X11_fact_44 (byI T n s1.1) (nI s1.1) τ2 else if byI T n s1.1 = 62 then f_X11_fact_44 (byI T n s1.1) (nI s1.1) τ2 else (f_X11_fails 0 (nI s1.1) τ2).bind fun u24 => some (vp_nar .boolean u24.1, u24.2)) = f_X11_fact_44 (byI T n s1.1) (nI s1.1) τ2 := by
        by_cases w1 : byI T n s1.1 = 60
        · rw [if_pos w1]
        · rw [if_neg w1]
          by_cases w2 : byI T n s1.1 = 61
          · rw [if_pos w2]
          · rw [if_neg w2, if_pos]
            rcases hTp with u | u | u
            · exact absurd (i60.mpr (decide_eq_true ⟨hp, u⟩)) w1
            · exact absurd (i61.mpr (decide_eq_true ⟨hp, u⟩)) w2
            · exact i62.mpr (decide_eq_true ⟨hp, u⟩)
      rw [e44, if_neg c]
      unfold one
      by_cases c4 : s1.2.1 < 80
      · obtain ⟨y, τ4, q4, x1, x2, x3, x4⟩ := to152 hT a2 c4 c
        rw [if_pos c4, x1]
        have nb3 := nb.2.2 hp
        have gs1 : GdR n (stp T n (s1.1, s1.2.1 + 1, s1.2.2)) := ⟨nb.1, Nat.le_trans g1.2.1 nb.2.1, c4⟩
        have hv2 := sumAll hc hT (f := f) hd (by omega) gs1 (show W.length ≤ nx T n s1.1 by omega) x2
        show RF T n k τ0 _ (bnR (AG T n f 4 d (stp T n (s1.1, s1.2.1 + 1, s1.2.2))) _) _
        unfold f_X11_fact_152
        cases e2 : AG T n f 4 d (stp T n (s1.1, s1.2.1 + 1, s1.2.2)) with
        | inl fl =>
          rw [e2] at hv2
          obtain ⟨τ5, r1, r2⟩ := hv2
          exact ⟨τ5, by rw [r1, bS, if_pos rfl], r2⟩
        | inr s2 =>
          rw [e2] at hv2
          obtain ⟨τ5, q5, r3, r4⟩ := hv2
          have o2 : OkR n false (stp T n (s1.1, s1.2.1 + 1, s1.2.2)) s2 := A 4 d _ s2 (by omega) hd (by omega) nb.1 (show s1.2.1 + 1 ≤ 80 by omega) e2
          have g3 := o2.gd gs1
          obtain ⟨τ6, y1, y2⟩ := r4.lays (by have := g3.1; have := g3.2.1; omega) x3 x4
          refine ⟨τ6, q5, ?_, y2⟩
          rw [r3, bS, if_neg (show ¬ (1 : Int32) = 0 by decide)]
          show (f_X11_lays (5 + y) 0 τ5).bind _ = _
          rw [y1, bS]
      · obtain ⟨τ3, b1, b2⟩ := a2.makesN c4 g1.2.2 s1.1
        rw [if_neg c4]
        unfold f_X11_fact_44
        rw [b1, bS, if_pos rfl]
        exact ⟨τ3, rfl, b2⟩
end FC
