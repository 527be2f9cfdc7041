/-! kept, broken -/
set_option maxHeartbeats 200000 in
theorem kept_both {σ τ : St} (J : JJ σ τ) {i x n : Nat} (hn : n ≤ 150) (e1 : σ.1 9 = nI n) (hi : i < n) (hx : x < 3) : ∃ (v : Int32) (σ' τ' : St), f_X10_isKept (nI i) (nI x) σ = some (v, σ') ∧ f_X11_isKept (nI i) (nI x) τ = some (v, τ') ∧ Fr [] [] [11, 12, 44] σ σ' ∧ Fr [47, 48, 49, 50, 51] [] [33] τ τ' := by
  obtain ⟨h, hs, hd, hp, hact⟩ := id J
  obtain ⟨n', hn', e1', e2, hA⟩ := id hact
  obtain ⟨ns, hns, s1, s2, s3, s4, s5, s6⟩ := id hs
  have hh : n = n' := by
    have e := e1.symm.trans e1'
    rw [nI_eqE (by omega) (by omega)] at e; exact e
  subst hh
  obtain ⟨⟨q1, q2, q3, q4, q5⟩, b1, b2, b3, b4, b5⟩ := hA i hi
  rw [s1, nI_toInt (show ns < 2 ^ 31 by omega)] at b1
  obtain ⟨sh, hsh, z1⟩ := nI_btw (x := τ.2.1 34 i) (n := 39) b1.1 (by omega)
  obtain ⟨t, ht, z2⟩ := nI_btw (x := τ.2.1 35 i) (n := 4) b2.1 b2.2
  obtain ⟨a, ha, z3⟩ := nI_btw (x := τ.2.1 36 i) (n := 23) b3.1 b3.2
  obtain ⟨b, hb, z4⟩ := nI_btw (x := τ.2.1 37 i) (n := 23) b4.1 b4.2
  obtain ⟨m, hm, z5⟩ := nI_btw (x := τ.2.1 38 i) (n := 8999) b5.1 b5.2
  have hhas : ¬ f_X7_has (nI sh) σ = 0 := by
    rw [ship0, show gF σ 204 = _ from s1, ← z1, nI_toInt (show ns < 2 ^ 31 by omega)]
    exact not_not_intro b1
  obtain ⟨z, v, σ', τ', r1, r2, r3, r4, r5⟩ := do_both h hs hd hp hx ht hhas (by omega) (show a < 24 by omega) (show b < 24 by omega) (show m < 9000 by omega)
  have J' := J.fr r4 r5
  have u1 : f_X10_isKept (nI i) (nI x) σ = (if v = 0 then some (0, σ') else if nI t = 0 then ((rd tC σ' 21 (nI sh)).bind fun v29 => (f_X10_meshFor (nI x) (nI sh) (nI a) (nI b) (nI m) σ').bind fun u30 => if v29.toInt64 < u30.1 then some (0, u30.2) else some (1, u30.2)) else some (1, σ')) := by
    unfold f_X10_isKept f_X10_isKept_143
    rw [bndE, show nI i * 5 = nI (5 * i) by rw [show (5 : Int32) = nI 5 from rfl, pk_mul, Nat.mul_comm], if_neg (show ¬ f_X10_lies (nI (5 * i)) 0 (750 - 5) = 0 by rw [lies0, nI_toInt (show 5 * i < 2 ^ 31 by omega)]; exact not_not_intro ⟨show (0 : Int) ≤ _ by omega, show (_ : Int) ≤ 745 by omega⟩), rdC_13 (by omega), bS, show nI (5 * i) + 1 = nI (5 * i + 1) from nI_add _ 1, rdC_13 (by omega), bS, show nI (5 * i) + 2 = nI (5 * i + 2) from nI_add _ 2, rdC_13 (by omega), bS, show nI (5 * i) + 3 = nI (5 * i + 3) from nI_add _ 3, rdC_13 (by omega), bS, show nI (5 * i) + 4 = nI (5 * i + 4) from nI_add _ 4, rdC_13 (by omega), bS, q1, q2, q3, q4, q5, z1, z2, z3, z4, z5, if_neg hhas, r1, bS]
    show (f_X2_allows z (nI t) σ').bind _ = _
    rw [r2, bS]
  have k2 : τ'.2.1 = τ.2.1 := by funext k; exact r5.2.1 k (by simp)
  have u2 : f_X11_isKept (nI i) (nI x) τ = (if v = 0 then some (0, τ') else if nI t = 0 then ((rd tM τ' 5 (nI sh)).bind fun v29 => (f_X11_meshOf (nI x) (nI sh) (nI a) (nI b) (nI m) τ').bind fun u30 => if v29.toInt64 < u30.1 then some (0, u30.2) else some (1, u30.2)) else some (1, τ')) := by
    unfold f_X11_isKept f_X11_isKept_94
    rw [rdM_35 (by omega), bS, rdM_34 (by omega), bS, rdM_36 (by omega), bS, rdM_37 (by omega), bS, rdM_38 (by omega), bS, z1, z2, z3, z4, z5, r3, bS]
    show (if v = 0 then some (0, τ') else ((rd tM τ' 35 (nI i)).bind fun v35 => if v35 = 0 then ((rd tM τ' 34 (nI i)).bind fun v36 => (rd tM τ' 5 v36).bind fun v37 => (rd tM τ' 34 (nI i)).bind fun v38 => (rd tM τ' 36 (nI i)).bind fun v39 => (rd tM τ' 37 (nI i)).bind fun v40 => (rd tM τ' 38 (nI i)).bind fun v41 => (f_X11_meshOf (nI x) v38 v39 v40 v41 τ').bind fun u42 => if v37.toInt64 < u42.1 then some (0, u42.2) else some (1, u42.2)) else some (1, τ'))) = _
    rw [rdM_35 (by omega), bS, rdM_34 (by omega), bS, rdM_36 (by omega), rdM_37 (by omega), rdM_38 (by omega), k2, z1, z2, z3, z4, z5]
    rfl
  rw [u1, u2]
  by_cases v0 : v = 0
  · rw [if_pos v0, if_pos v0]; exact ⟨0, σ', τ', rfl, rfl, r4, r5⟩
  · rw [if_neg v0, if_neg v0]
    by_cases t0 : nI t = 0
    · rw [if_pos t0, if_pos t0]
      obtain ⟨⟨L, ks, Ln, K, H, -⟩, hs', hd', -, -⟩ := id J'
      obtain ⟨-, -, -, -, -, -, -, s6'⟩ := id hs'
      have hhas' : ¬ f_X7_has (nI sh) σ' = 0 := by
        have : gF σ' 204 = gF σ 204 := r4.1 204 (by simp)
        rw [ship0, this, ← ship0]
        exact hhas
      obtain ⟨w, σ2, τ2, w1, w2, w3, w4⟩ := mesh_both (x := x) H hs' hd' hhas' (by omega) (show a < 24 by omega) (show b < 24 by omega) (show m < 9000 by omega)
      rw [rdC_21 (by omega), bS, rdM_5 (by omega), bS, w1, w2, bS, bS, s6']
      by_cases c : (τ'.2.1 5 sh).toInt64 < w
      · refine ⟨0, σ2, τ2, if_pos c, if_pos c, r4.tr w3, r5.tr w4⟩
      · refine ⟨1, σ2, τ2, if_neg c, if_neg c, r4.tr w3, r5.tr w4⟩
    · rw [if_neg t0, if_neg t0]; exact ⟨1, σ', τ', rfl, rfl, r4, r5⟩
set_option maxHeartbeats 200000 in
theorem o_kept (x1 x2 : Int32) {σ τ : St} (J : JJ σ τ) : Op (f_X10_kept x1 x2 σ) (f_X11_kept x1 x2 τ) Tt ([], [], [11, 12, 44]) ([47, 48, 49, 50, 51], [], [33]) σ τ := by
  obtain ⟨n, hn, e1, e2, hA⟩ := id J.2.2.2.2
  have en : (nI n - 1).toInt = (n : Int) - 1 := by
    by_cases n0 : n = 0
    · rw [n0]; decide
    · rw [nIs n (by omega), nI_toInt (show n - 1 < 2 ^ 31 by omega)]; omega
  unfold f_X10_kept f_X11_kept f_X11_kept_28
  refine Op.ite (by rw [lies0, in0, wdL, wdL, show gF σ 9 = _ from e1, show gF τ 53 = _ from e2]; exact Iff.rfl) (-1) trivial (fun c1 => Op.ite (authE _) (-1) trivial (fun c2 => ?_))
  rw [lies0, show gF σ 9 = _ from e1, en] at c1
  have c1 := Decidable.not_not.mp c1
  obtain ⟨i, hi, rfl⟩ := nI_btw (x := x1) (n := n - 1) c1.1 (by have := c1.2; have := c1.1; have z : (0 : Int32).toInt = 0 := rfl; omega)
  have hin : i < n := by
    have z := c1.2
    rw [nI_toInt (show i < 2 ^ 31 by omega)] at z
    omega
  obtain ⟨x, hx, rfl⟩ := auth_of c2
  obtain ⟨v, σ', τ', r1, r2, r3, r4⟩ := kept_both J hn e1 hin hx
  refine ⟨(if v = 0 then 0 else 1), σ', τ', ?_, ?_, trivial, r3, r4⟩
  · rw [r1, bS, bndE]
  · rw [r2, bS]
    show (if v = 0 then some (0, τ') else some (1, τ')) = _
    split <;> rfl
set_option maxHeartbeats 200000 in
theorem broken_loop {x n : Nat} (hx : x < 3) (hn : n ≤ 150) (y : Int32) : ∀ (k i f f' : Nat) (σ τ : St) (v : Int32), i + k = n → k < f → k < f' → JJ σ τ → σ.1 9 = nI n → τ.1 53 = nI n → ∃ (w : Int32) (σ' τ' : St), f_X10_broken_21 y (nI x) f v (nI i) σ = some (w, σ') ∧ f_X11_broken_26 y (nI x) f' v (nI i) τ = some (w, τ') ∧ Fr [] [] [11, 12, 44] σ σ' ∧ Fr [47, 48, 49, 50, 51] [] [33] τ τ' := by
  intro k
  induction k with
  | zero =>
    intro i f f' σ τ v hi hf hf' J e1 e2
    obtain ⟨f, rfl⟩ : ∃ q, f = q + 1 := ⟨f - 1, by omega⟩
    obtain ⟨f', rfl⟩ : ∃ q, f' = q + 1 := ⟨f' - 1, by omega⟩
    refine ⟨v, σ, τ, ?_, ?_, Fr.rf, Fr.rf⟩
    · unfold f_X10_broken_21
      rw [show gF σ 9 = nI n from e1, if_pos (by rw [nI_leE (by omega) (by omega)]; omega)]
    · unfold f_X11_broken_26
      rw [show gF τ 53 = nI n from e2, if_pos (by rw [nI_leE (by omega) (by omega)]; omega)]
  | succ k ih =>
    intro i f f' σ τ v hi hf hf' J e1 e2
    obtain ⟨f, rfl⟩ : ∃ q, f = q + 1 := ⟨f - 1, by omega⟩
    obtain ⟨f', rfl⟩ : ∃ q, f' = q + 1 := ⟨f' - 1, by omega⟩
    have ih := fun σ τ w => ih (i + 1) f f' σ τ w (by omega) (by omega) (by omega)
    rw [← show nI i + 1 = nI (i + 1) from nI_add _ 1] at ih
    obtain ⟨n', hn', e1', -, hA⟩ := id J.2.2.2.2
    have hh : n = n' := by
      have e := e1.symm.trans e1'
      rw [nI_eqE (by omega) (by omega)] at e; exact e
    subst hh
    obtain ⟨⟨q1, q2, q3, q4, q5⟩, b1, -⟩ := hA i (by omega)
    obtain ⟨ns, hns, s1, s2, s3, s4, s5, s6⟩ := id J.2.1
    have hhas : ¬ f_X7_has (τ.2.1 34 i) σ = 0 := by
      rw [ship0]
      exact not_not_intro b1
    obtain ⟨sh, hsh, z1⟩ := ship_of J.2.1 hhas
    unfold f_X10_broken_21 f_X11_broken_26 f_X10_broken_80 f_X11_broken_64
    rw [show gF σ 9 = nI n from e1, if_neg (by rw [nI_leE (by omega) (by omega)]; omega), show gF τ 53 = nI n from e2, if_neg (by rw [nI_leE (by omega) (by omega)]; omega), show nI i * 5 = nI (5 * i) by rw [show (5 : Int32) = nI 5 from rfl, pk_mul, Nat.mul_comm], rdC_13 (by omega), bS, q1, if_neg hhas, rdM_34 (by omega), bS, z1, rdC_18 hsh, bS, rdM_2 hsh, bS, s3]
    by_cases c : τ.2.1 2 sh = y
    · rw [if_pos c, if_pos c]
      obtain ⟨w, σ', τ', r1, r2, r3, r4⟩ := kept_both J hn e1 (show i < n by omega) hx
      have J' := J.fr r3 r4
      have e1'' : σ'.1 9 = nI n := (r3.1 9 (by simp)).trans e1
      have e2'' : τ'.1 53 = nI n := (r4.1 53 (by simp)).trans e2
      rw [r1, r2, bS, bS]
      by_cases w0 : w = 0
      · obtain ⟨u, σ2, τ2, u1, u2, u3, u4⟩ := ih σ' τ' (v + 1) J' e1'' e2''
        refine ⟨u, σ2, τ2, ?_, ?_, r3.tr u3, r4.tr u4⟩
        · exact (if_pos w0).trans u1
        · exact (if_pos w0).trans u2
      · obtain ⟨u, σ2, τ2, u1, u2, u3, u4⟩ := ih σ' τ' v J' e1'' e2''
        refine ⟨u, σ2, τ2, ?_, ?_, r3.tr u3, r4.tr u4⟩
        · exact (if_neg w0).trans u1
        · exact (if_neg w0).trans u2
    · rw [if_neg c, if_neg c, bndE, bndE]
      exact ih σ τ v J e1 e2
set_option maxHeartbeats 200000 in
theorem o_broken (x1 x2 : Int32) {σ τ : St} (J : JJ σ τ) : Op (f_X10_broken x1 x2 σ) (f_X11_broken x1 x2 τ) Tt ([], [], [11, 12, 44]) ([47, 48, 49, 50, 51], [], [33]) σ τ := by
  obtain ⟨n, hn, e1, e2, hA⟩ := id J.2.2.2.2
  unfold f_X10_broken f_X11_broken
  refine Op.ite (sideE _) (-1) trivial (fun c1 => Op.ite (authE _) (-1) trivial (fun c2 => ?_))
  obtain ⟨x, hx, rfl⟩ := auth_of c2
  obtain ⟨w, σ', τ', r1, r2, r3, r4⟩ := broken_loop hx hn x1 n 0 FU FU σ τ 0 (by omega) (by unfold FU; omega) (by unfold FU; omega) J e1 e2
  exact ⟨w, σ', τ', r1, r2, trivial, r3, r4⟩
