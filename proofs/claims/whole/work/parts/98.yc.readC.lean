/-! the class reads a clause -/
section RC
variable {T : Nat → Nat} {n K Ln k : Nat} {σ0 σ : St} {s : PS} {cs : List Cl} {x1 x3 : Int32}
set_option maxHeartbeats 200000 in
theorem c82_lim (hK : K + 400 ≤ Ln) (h : CK T n K Ln k σ0 σ s cs) (hl : ¬ cs.length < 12) (hl2 : cs.length ≤ 12) (g : GdR n s) (x2 : Int32) : ∃ σ', f_X4_readClause_82 x1 x2 x3 σ = some σ' ∧ CFK T n K Ln k σ0 σ' (1 + 8 * s.1 + 4) := by
  have n4 := h.1.1.1
  obtain ⟨σ1, a1, a2⟩ := h.1.fail (by have := g.1; have := g.2.1; omega) (k := 4) (by decide)
  refine ⟨σ1, ?_, h.flt hl2 a2⟩
  unfold f_X4_readClause_82
  rw [h.rdn.1, bS, if_neg (show ¬ nI cs.length < 12 from by rw [show (12 : Int32) = nI 12 from rfl, nI_ltE (by omega) (by omega)]; exact hl), show f_X4_fail 4 σ = _ from a1, bS]
set_option maxHeartbeats 200000 in
theorem c82_sum (hT : ∀ i, T i < 256) (hL : Ln < 9000) (hK : K + 400 ≤ Ln) (h : CK T n K Ln k σ0 σ s cs) (hl : cs.length < 12) (g : GdR n s) {t : Nat} (ht : t = 5 ∨ t = 6) : ∃ σ', f_X4_readClause_82 x1 (nI t) x3 σ = some σ' ∧ CKX T n K Ln k σ0 (aSumC T n t (s, cs)) σ' := by
  have nb := nx_b (T := T) (n := n) g.1
  have gs1 : GdR n (stp T n s) := ⟨nb.1, Nat.le_trans g.2.1 nb.2.1, g.2.2⟩
  obtain ⟨σ1, a1, a2⟩ := h.1.adv
  have h1 := h.mv a2
  obtain ⟨σ2, b1, b2, r1, r2, r3, r4⟩ := h1.begin hl t 0
  obtain ⟨σ3, d1, d2⟩ := RG_ok (σ0 := σ2) hT hL hK 120 4 0 _ σ2 (by omega) (by omega) (by omega) gs1 b2.1
  have t7 : ¬ nI t = 7 := by rw [show (7 : Int32) = nI 7 from rfl, nI_eqE (by omega) (by omega)]; omega
  have st : f_X4_readClause_82 x1 (nI t) x3 σ = f_X4_readClause_145 (nI t) σ3 := by
    unfold f_X4_readClause_82 rG
    rw [h.rdn.1, bS, if_pos (show nI cs.length < 12 from nI_lt (b := 12) hl (by decide)), a1, bS, if_neg t7, if_neg (show ¬ nI t = -1 from neg_nI (by omega) (by decide)), b1, bS, show RG 120 4 0 σ2 = _ from d1, bS]
  rw [st]
  unfold aSumC
  show ∃ σ', _ ∧ CKX T n K Ln k σ0 (bnC (AG T n 120 4 0 (stp T n s)) (fun s1 => aCond T n cs t 0 s.2.2.length s1)) σ'
  cases e : AG T n 120 4 0 (stp T n s) with
  | inl fl =>
    rw [e] at d2
    exact (b2.flt (by omega) d2).all (nI t)
  | inr s1 =>
    rw [e] at d2
    have d2 : CR T n K Ln σ2 σ3 s1 := d2
    have f3 := d2.2.2.2.2.2.2.2.2.1
    have o := AG_ok (n := n) hT 120 4 0 (stp T n s) s1 (by omega) (by omega) (by omega) gs1.1 gs1.2.2 e
    exact condC hT hL hK (b2.mv d2) hl (o.gd gs1) t7 (by rw [f3.2.1 38 (by decide)]; exact r1) (by rw [f3.2.1 39 (by decide)]; exact r2) (by rw [f3.2.1 40 (by decide)]; exact r3) (by rw [f3.2.1 41 (by decide)]; exact r4)
set_option maxHeartbeats 200000 in
theorem CR.what (h : CR T n K Ln σ σ s) (y : Int32) : f_X4_readWhat y σ = f_X4_readWhat_66 y (wv (whn T n s.1)) σ := by
  unfold f_X4_readWhat
  rw [h.wd (w := 5) (by decide), bS, h.wd (w := 6) (by decide), bS, h.wd (w := 7) (by decide), bS, h.wd (w := 8) (by decide), bS, h.wd (w := 9) (by decide), bS]
  show _ = f_X4_readWhat_66 y (wv (if wdB T n s.1 (wl_ 5) = true then some 0 else if wdB T n s.1 (wl_ 6) = true then some 1 else if wdB T n s.1 (wl_ 7) = true then some 2 else if wdB T n s.1 (wl_ 8) = true then some 3 else if wdB T n s.1 (wl_ 9) = true then some 4 else none)) σ
  generalize wdB T n s.1 (wl_ 5) = b0
  generalize wdB T n s.1 (wl_ 6) = b1
  generalize wdB T n s.1 (wl_ 7) = b2
  generalize wdB T n s.1 (wl_ 8) = b3
  generalize wdB T n s.1 (wl_ 9) = b4
  cases b0
  case true => rfl
  cases b1
  case true => rfl
  cases b2
  case true => rfl
  cases b3
  case true => rfl
  cases b4
  case true => rfl
  rfl
set_option maxHeartbeats 200000 in
theorem c82_what (hT : ∀ i, T i < 256) (hL : Ln < 9000) (hK : K + 400 ≤ Ln) (h : CK T n K Ln k σ0 σ s cs) (hl : cs.length < 12) (g : GdR n s) : ∃ σ', f_X4_readClause_82 x1 (-1) x3 σ = some σ' ∧ CKX T n K Ln k σ0 (aWhat T n x3 (s, cs)) σ' := by
  have n4 := h.1.1.1
  have nb := nx_b (T := T) (n := n) g.1
  have gs1 : GdR n (stp T n s) := ⟨nb.1, Nat.le_trans g.2.1 nb.2.1, g.2.2⟩
  have nb2 := nx_b (T := T) (n := n) gs1.1
  have gs2 : GdR n (stp T n (stp T n s)) := ⟨nb2.1, Nat.le_trans gs1.2.1 nb2.2.1, g.2.2⟩
  obtain ⟨σ1, a1, a2⟩ := h.1.adv
  have h1 := h.mv a2
  have st : f_X4_readClause_82 x1 (-1) x3 σ = (f_X4_readWhat_66 x3 (wv (whn T n (nx T n s.1))) σ1).bind fun σ44 => f_X4_readClause_145 (-1) σ44 := by
    unfold f_X4_readClause_82
    rw [h.rdn.1, bS, if_pos (show nI cs.length < 12 from nI_lt (b := 12) hl (by decide)), a1, bS, if_neg (by decide), if_pos rfl, h1.1.what]; rfl
  rw [st]
  unfold aWhat f_X4_readWhat_66
  show ∃ σ', _ ∧ CKX T n K Ln k σ0 (match whn T n (nx T n s.1) with
    | none => .inl (1 + 8 * nx T n s.1 + 0)
    | some j => aCond T n cs j x3 s.2.2.length (stp T n (stp T n s))) σ'
  cases q : whn T n (nx T n s.1) with
  | none =>
    obtain ⟨σ2, b1, b2⟩ := h1.1.fail (show K + s.2.2.length ≤ Ln by have := g.1; have := g.2.1; omega) (k := 0) (by decide)
    obtain ⟨σ3, d1, d2⟩ := (h1.flt (by omega) b2).all (-1)
    refine ⟨σ3, ?_, d2⟩
    rw [if_pos (show wv none = -1 from rfl), show f_X4_fail 0 σ1 = _ from b1, bS, bS, d1]
  | some j =>
    obtain ⟨-, w2, w3⟩ := fnd_lt q
    obtain ⟨σ2, b1, b2, r1, r2, r3, r4⟩ := h1.begin hl j x3
    obtain ⟨σ3, d1, d2⟩ := b2.1.adv
    have f3 := d2.2.2.2.2.2.2.2.2.1
    obtain ⟨σ4, k1, k2⟩ := condC hT hL hK (b2.mv d2) hl gs2 (x2 := -1) (t := j) (y := x3) (a := s.2.2.length) (by decide) (by rw [f3.2.1 38 (by decide)]; exact r1) (by rw [f3.2.1 39 (by decide)]; exact r2) (by rw [f3.2.1 40 (by decide)]; exact r3) (by rw [f3.2.1 41 (by decide)]; exact r4)
    refine ⟨σ4, ?_, k2⟩
    rw [if_neg (show ¬ wv (some j) = -1 from neg_nI (by omega) (by decide)), show wv (some j) = nI j from rfl, b1, bS, d1, bS, bS, k1]
set_option maxHeartbeats 200000 in
theorem c82_strk (hL : Ln < 9000) (hK : K + 400 ≤ Ln) {own : Nat → Bool} (hown : ∀ σ, σ.1 400 = σ0.1 400 → σ.2.1 32 = σ0.2.1 32 → ∀ N, N < 100000000 → f_X2_isOf (nI N) x1 σ = some (if own N = true then 1 else 0)) (h : CK T n K Ln k σ0 σ s cs) (hl : cs.length < 12) (g : GdR n s) : ∃ σ', f_X4_readClause_82 x1 7 x3 σ = some σ' ∧ CKX T n K Ln k σ0 (aStrk T n own (s, cs)) σ' := by
  have n4 := h.1.1.1
  have nb := nx_b (T := T) (n := n) g.1
  have gs1 : GdR n (stp T n s) := ⟨nb.1, Nat.le_trans g.2.1 nb.2.1, g.2.2⟩
  have te := tkE_le (T := T) nb.1
  obtain ⟨σ1, a1, a2⟩ := h.1.adv
  have h1 := h.mv a2
  have st : f_X4_readClause_82 x1 7 x3 σ = (f_X4_readStruck x1 σ1).bind fun σ45 => f_X4_readClause_145 7 σ45 := by
    unfold f_X4_readClause_82
    rw [h.rdn.1, bS, if_pos (show nI cs.length < 12 from nI_lt (b := 12) hl (by decide)), a1, bS, if_pos rfl]
  have bad : ∀ j, j < 8 → f_X4_readStruck x1 σ1 = (f_X4_fail (nI j) σ1).bind some → ∃ σ', f_X4_readClause_82 x1 7 x3 σ = some σ' ∧ CFK T n K Ln k σ0 σ' (1 + 8 * nx T n s.1 + j) := by
    intro j hj e
    obtain ⟨σ2, b1, b2⟩ := h1.1.fail (show K + s.2.2.length ≤ Ln by have := g.1; have := g.2.1; omega) (k := j) hj
    obtain ⟨σ3, d1, d2⟩ := (h1.flt (by omega) b2).all 7
    exact ⟨σ3, by rw [st, e, b1, bS, bS, d1], d2⟩
  unfold aStrk
  show ∃ σ', _ ∧ CKX T n K Ln k σ0 (if nx T n s.1 < n ∧ isDg (T (nx T n s.1)) = true then (if tkE T n (nx T n s.1) - nx T n s.1 ≤ 5 ∧ own (nvl T (nx T n s.1) (tkE T n (nx T n s.1) - nx T n s.1)) = true then .inr (stp T n (stp T n s), cs ++ [(7, nI (nvl T (nx T n s.1) (tkE T n (nx T n s.1) - nx T n s.1)), 0, s.2.2.length, s.2.2.length, s.2.2.length)]) else .inl (1 + 8 * nx T n s.1 + 1)) else .inl (1 + 8 * nx T n s.1 + 0)) σ'
  by_cases c1 : nx T n s.1 < n ∧ isDg (T (nx T n s.1)) = true
  · rw [if_pos c1]
    have e3 : gF σ1 504 = -3 := h1.1.dg.mpr c1
    obtain ⟨v6, v7⟩ := h1.1.2.1.2.2.2 c1.1 (dg_lo c1.2) c1.2
    have v7 : gF σ1 507 = nI (tkE T n (nx T n s.1) - nx T n s.1) := v7
    have v6 : gF σ1 506 = nI (nvl T (nx T n s.1) (tkE T n (nx T n s.1) - nx T n s.1)) := v6
    have fr := h1.2.2.2.2.2.1
    have ow := hown σ1 (fr.1 400 (by decide)) (fr.2.1 32 (by decide)) _ (nvl_lt h.1.1.2.2.1 (nx T n s.1) (tkE T n (nx T n s.1) - nx T n s.1))
    by_cases c2 : tkE T n (nx T n s.1) - nx T n s.1 ≤ 5
    · by_cases c3 : own (nvl T (nx T n s.1) (tkE T n (nx T n s.1) - nx T n s.1)) = true
      · rw [if_pos ⟨c2, c3⟩]
        obtain ⟨σ2, b1, b2, r1, r2, r3, r4⟩ := h1.begin hl 7 (nI (nvl T (nx T n s.1) (tkE T n (nx T n s.1) - nx T n s.1)))
        obtain ⟨σ3, d1, d2⟩ := b2.1.adv
        have f3 := d2.2.2.2.2.2.2.2.2.1
        have h3 := b2.mv d2
        obtain ⟨σ4, k1, k2, k3, k4⟩ := h3.bcond hl
        obtain ⟨σ5, y1, y2⟩ := k2.fin hl (t := 7) (z := 0) (a := s.2.2.length) (b := s.2.2.length) (y := nI (nvl T (nx T n s.1) (tkE T n (nx T n s.1) - nx T n s.1))) (by rw [k3.2.1 38 (by decide), f3.2.1 38 (by decide)]; exact r1) (by rw [k3.2.1 39 (by decide), f3.2.1 39 (by decide)]; exact r2) (by rw [k3.2.1 40 (by decide), f3.2.1 40 (by decide)]; exact r3) (by rw [k3.2.1 41 (by decide), f3.2.1 41 (by decide)]; exact r4) k4
        refine ⟨σ5, ?_, y2⟩
        rw [st]
        unfold f_X4_readStruck f_X4_readClause_145 f_X4_readClause_162
        rw [if_pos e3, v7, if_neg (show ¬ (5 : Int32) < nI (tkE T n (nx T n s.1) - nx T n s.1) from by rw [show (5 : Int32) = nI 5 from rfl, nI_ltE (by omega) (by omega)]; omega), v6, ow, bS, if_pos c3, if_neg (show ¬ (1 : Int32) = 0 by decide), show f_X2_beginClause 7 (nI (nvl T (nx T n s.1) (tkE T n (nx T n s.1) - nx T n s.1))) σ1 = _ from b1, bS, d1, bS, bS, k1, bS, if_pos rfl, y1, bS]
      · rw [if_neg (fun z => c3 z.2)]
        refine bad 1 (by omega) ?_
        unfold f_X4_readStruck f_X4_readStruck_40
        rw [if_pos e3, v7, if_neg (show ¬ (5 : Int32) < nI (tkE T n (nx T n s.1) - nx T n s.1) from by rw [show (5 : Int32) = nI 5 from rfl, nI_ltE (by omega) (by omega)]; omega), v6, ow, bS, if_neg c3, if_pos rfl]; rfl
    · rw [if_neg (fun z => c2 z.1)]
      refine bad 1 (by omega) ?_
      unfold f_X4_readStruck f_X4_readStruck_40
      rw [if_pos e3, v7, if_pos (show (5 : Int32) < nI (tkE T n (nx T n s.1) - nx T n s.1) from nI_lt (a := 5) (by omega) (by omega))]; rfl
  · rw [if_neg c1]
    refine bad 0 (by omega) ?_
    unfold f_X4_readStruck
    rw [if_neg (fun z => c1 (h1.1.dg.mp z))]; rfl
set_option maxHeartbeats 200000 in
theorem clauseC (hT : ∀ i, T i < 256) (hL : Ln < 9000) (hK : K + 400 ≤ Ln) {own : Nat → Bool} (hown : ∀ σ, σ.1 400 = σ0.1 400 → σ.2.1 32 = σ0.2.1 32 → ∀ N, N < 100000000 → f_X2_isOf (nI N) x1 σ = some (if own N = true then 1 else 0)) (h : CK T n K Ln k σ0 σ s cs) (hl : cs.length ≤ 12) (g : GdR n s) : ∃ σ', f_X4_readClause x1 σ = some σ' ∧ CKX T n K Ln k σ0 (aClause T n own (s, cs)) σ' := by
  have n4 := h.1.1.1
  have lim : ∀ (x2 x3 : Int32) (X : CT), (cs.length < 12 → ∃ σ', f_X4_readClause_82 x1 x2 x3 σ = some σ' ∧ CKX T n K Ln k σ0 X σ') → ∃ σ', f_X4_readClause_82 x1 x2 x3 σ = some σ' ∧ CKX T n K Ln k σ0 (if cs.length < 12 then X else .inl (1 + 8 * s.1 + 4)) σ' := by
    intro x2 x3 X hX
    by_cases q : cs.length < 12
    · rw [if_pos q]; exact hX q
    · rw [if_neg q]; exact c82_lim hK h q hl g x2
  have w0 := h.1.wd (w := 0) (by decide)
  have w1 := h.1.wd (w := 1) (by decide)
  have w2 := h.1.wd (w := 2) (by decide)
  have w3 := h.1.wd (w := 3) (by decide)
  have w4 := h.1.wd (w := 4) (by decide)
  have e42 : ∀ y0, ¬ y0 = -1 → ∃ x3, f_X4_readClause_42 x1 y0 σ = f_X4_readClause_82 x1 y0 x3 σ := by
    intro y0 hy
    unfold f_X4_readClause_42
    rw [w3, bS, bndE, if_neg hy]
    exact ⟨_, rfl⟩
  unfold f_X4_readClause aClause
  rw [w0, bS]
  show ∃ σ', _ ∧ CKX T n K Ln k σ0 (if wdB T n s.1 (wl_ 0) = true then _ else _) σ'
  by_cases c0 : wdB T n s.1 (wl_ 0) = true
  · rw [if_pos c0, if_pos c0, if_neg (show ¬ (1 : Int32) = 0 by decide)]
    obtain ⟨x3, e⟩ := e42 5 (by decide)
    rw [e]
    exact lim 5 x3 _ (fun q => c82_sum hT hL hK h q g (t := 5) (Or.inl rfl))
  · rw [if_neg c0, if_neg c0, if_pos rfl, w1, bS]
    show ∃ σ', _ ∧ CKX T n K Ln k σ0 (if wdB T n s.1 (wl_ 1) = true then _ else _) σ'
    by_cases c1 : wdB T n s.1 (wl_ 1) = true
    · rw [if_pos c1, if_pos c1, if_neg (show ¬ (1 : Int32) = 0 by decide)]
      obtain ⟨x3, e⟩ := e42 6 (by decide)
      rw [e]
      exact lim 6 x3 _ (fun q => c82_sum hT hL hK h q g (t := 6) (Or.inr rfl))
    · rw [if_neg c1, if_neg c1, if_pos rfl, w2, bS]
      show ∃ σ', _ ∧ CKX T n K Ln k σ0 (if wdB T n s.1 (wl_ 2) = true then _ else _) σ'
      by_cases c2 : wdB T n s.1 (wl_ 2) = true
      · rw [if_pos c2, if_pos c2, if_neg (show ¬ (1 : Int32) = 0 by decide)]
        obtain ⟨x3, e⟩ := e42 7 (by decide)
        rw [e]
        exact lim 7 x3 _ (fun q => c82_strk hL hK hown h q g)
      · rw [if_neg c2, if_neg c2, if_pos rfl]
        unfold f_X4_readClause_42
        rw [w3, bS, bndE, if_pos rfl, w4, bS]
        show ∃ σ', _ ∧ CKX T n K Ln k σ0 (if wdB T n s.1 (wl_ 3) = true then _ else _) σ'
        by_cases c3 : wdB T n s.1 (wl_ 3) = true
        · rw [if_pos c3, if_pos c3, if_neg (show ¬ (1 : Int32) = 0 by decide), if_neg (show ¬ (1 : Int32) = 0 by decide)]
          exact lim (-1) 1 _ (fun q => c82_what hT hL hK h q g)
        · rw [if_neg c3, if_neg c3, if_pos rfl, if_pos rfl]
          show ∃ σ', _ ∧ CKX T n K Ln k σ0 (if wdB T n s.1 (wl_ 4) = true then _ else _) σ'
          by_cases c4 : wdB T n s.1 (wl_ 4) = true
          · rw [if_pos c4, if_pos c4, if_neg (show ¬ (1 : Int32) = 0 by decide)]
            exact lim (-1) 0 _ (fun q => c82_what hT hL hK h q g)
          · rw [if_neg c4, if_neg c4, if_pos rfl]
            obtain ⟨σ1, a1, a2⟩ := h.1.fail (show K + s.2.2.length ≤ Ln by have := g.1; have := g.2.1; omega) (k := 0) (by decide)
            refine ⟨σ1, ?_, h.flt hl a2⟩
            rw [show f_X4_fail 0 σ = _ from a1, bS]
end RC
