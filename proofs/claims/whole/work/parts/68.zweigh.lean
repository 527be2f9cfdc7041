section BX2
variable {σ τ : St} {n : Nat} {P Q R : Nat → Int32}
/-- what is reckoned over some (x, y): v is the least, or the bound -/
def Mn (D : Nat → Nat → Prop) (c : Nat → Nat → Int64) (w : Nat → Nat → Int64) (v : Int64) : Prop := (v.toInt = 1000000000000 ∨ ∃ x y, D x y ∧ (c x y).toInt < 1000000000000 ∧ c x y + w x y = v) ∧ ∀ x y, D x y → (c x y).toInt < 1000000000000 → v.toInt ≤ (c x y + w x y).toInt
theorem Mn.skip {D D' : Nat → Nat → Prop} {c w : Nat → Nat → Int64} {v : Int64} (h : Mn D c w v) (x0 y0 : Nat) (h1 : ∀ x y, D x y → D' x y) (h2 : ∀ x y, D' x y → D x y ∨ (x = x0 ∧ y = y0)) (h3 : (c x0 y0).toInt < 1000000000000 → v.toInt ≤ (c x0 y0 + w x0 y0).toInt) : Mn D' c w v := by
  refine ⟨h.1.elim Or.inl (fun ⟨x, y, a, b⟩ => Or.inr ⟨x, y, h1 _ _ a, b⟩), fun x y hd hc => ?_⟩
  rcases h2 x y hd with a | ⟨rfl, rfl⟩
  · exact h.2 x y a hc
  · exact h3 hc
theorem Mn.take {D D' : Nat → Nat → Prop} {c w : Nat → Nat → Int64} {v : Int64} (h : Mn D c w v) (x0 y0 : Nat) (h1 : ∀ x y, D x y → D' x y) (h0 : D' x0 y0) (h2 : ∀ x y, D' x y → D x y ∨ (x = x0 ∧ y = y0)) (h3 : (c x0 y0).toInt < 1000000000000) (h4 : (c x0 y0 + w x0 y0).toInt < v.toInt) : Mn D' c w (c x0 y0 + w x0 y0) := by
  refine ⟨Or.inr ⟨x0, y0, h0, h3, rfl⟩, fun x y hd hc => ?_⟩
  rcases h2 x y hd with a | ⟨rfl, rfl⟩
  · have := h.2 x y a hc; omega
  · exact Int.le_refl _
theorem weigh_in (hn : n ≤ 6) (h1 : σ.1 1003 = nI n) (hP : σ.2.1 65 = P) (hQ : σ.2.1 66 = Q) (hR : σ.2.1 67 = R) (hP' : τ.2.1 57 = P) (hQ' : τ.2.1 58 = Q) (hR' : τ.2.1 59 = R) {Lc Lm : Nat → Int64} {b t f x : Nat} (hb : b < n) (ht : t ≤ 12) (hf : f ≤ 6) (hx : x ≤ t) (hL : ∀ t' f', t' ≤ t → f' ≤ f → Lc (91 * (b + 1) + 7 * t' + f') = Lm (91 * (b + 1) + 7 * t' + f')) {k8 k8' : Int64 → Int32 → Option Int64} :
    ∀ (k y m m' : Nat) (v : Int64), y + k = f + 1 → k < m → k < m' → Mn (fun x' y' => (x' < x ∨ (x' = x ∧ y' < y)) ∧ y' ≤ f) (fun x' y' => Lc (91 * (b + 1) + 7 * (t - x') + (f - y'))) (wV P Q R b) v → ∃ v', f_X0_weigh_17 (nI b) (nI t) (nI f) (nI x) (stL σ 68 Lc) k8 m v (nI y) = k8 v' (nI (x + 1)) ∧ f_X11_bestFrom_17 (nI b) (nI t) (nI f) (nI x) (stL τ 60 Lm) k8' m' v (nI y) = k8' v' (nI (x + 1)) ∧ Mn (fun x' y' => x' < x + 1 ∧ y' ≤ f) (fun x' y' => Lc (91 * (b + 1) + 7 * (t - x') + (f - y'))) (wV P Q R b) v' := by
  intro k
  induction k with
  | zero =>
    intro y m m' v e1 e2 e3 hM
    obtain ⟨m, rfl⟩ : ∃ q, m = q + 1 := ⟨m - 1, by omega⟩
    obtain ⟨m', rfl⟩ : ∃ q, m' = q + 1 := ⟨m' - 1, by omega⟩
    refine ⟨v, ?_, ?_, ?_⟩
    · unfold f_X0_weigh_17 f_X0_weigh_74
      rw [if_pos (nI_lt (by omega) (by omega)), bndE, nI_1]
    · unfold f_X11_bestFrom_17 f_X11_bestFrom_91
      rw [if_pos (nI_lt (by omega) (by omega)), bndE, nI_1]
    · refine ⟨hM.1.elim Or.inl (fun ⟨x', y', a, c⟩ => Or.inr ⟨x', y', ⟨by omega, a.2⟩, c⟩), fun x' y' hd hc => hM.2 x' y' ⟨by omega, hd.2⟩ hc⟩
  | succ k ih =>
    intro y m m' v e1 e2 e3 hM
    obtain ⟨m, rfl⟩ : ∃ q, m = q + 1 := ⟨m - 1, by omega⟩
    obtain ⟨m', rfl⟩ : ∃ q, m' = q + 1 := ⟨m' - 1, by omega⟩
    have a1 : nI t - nI x = nI (t - x) := pk_sub hx
    have a2 : nI f - nI y = nI (f - y) := pk_sub (by omega)
    have hl := hL (t - x) (f - y) (by omega) (by omega)
    have r1 := lfC (σ := σ) (L := Lc) (b := b + 1) (t := t - x) (f := f - y) (by omega) (by omega) (by omega)
    have r2 := rlMp (τ := τ) (L := Lm) (b := b + 1) (t := t - x) (f := f - y) (by omega) (by omega) (by omega)
    have q1 := wC (σ := stL σ 68 Lc) (P := P) (Q := Q) (R := R) (t := x) (f := y) hn h1 hP hQ hR hb
    have q2 := wM (τ := stL τ 60 Lm) (P := P) (Q := Q) (R := R) (t := x) (f := y) hP' hQ' hR' (show b < 6 by omega)
    have F : (1000000000000 : Int64).toInt = 1000000000000 := by simp only [Int64.reduceToInt]
    have step : ∀ v1, Mn (fun x' y' => (x' < x ∨ (x' = x ∧ y' < y + 1)) ∧ y' ≤ f) (fun x' y' => Lc (91 * (b + 1) + 7 * (t - x') + (f - y'))) (wV P Q R b) v1 → ∃ v', f_X0_weigh_17 (nI b) (nI t) (nI f) (nI x) (stL σ 68 Lc) k8 m v1 (nI (y + 1)) = k8 v' (nI (x + 1)) ∧ f_X11_bestFrom_17 (nI b) (nI t) (nI f) (nI x) (stL τ 60 Lm) k8' m' v1 (nI (y + 1)) = k8' v' (nI (x + 1)) ∧ Mn (fun x' y' => x' < x + 1 ∧ y' ≤ f) (fun x' y' => Lc (91 * (b + 1) + 7 * (t - x') + (f - y'))) (wV P Q R b) v' := fun v1 hv => ih (y + 1) m m' v1 (by omega) (by omega) (by omega) hv
    unfold f_X0_weigh_17 f_X11_bestFrom_17 f_X0_weigh_68 f_X11_bestFrom_85
    simp only [bndE]
    rw [if_neg (nI_nlt (by omega) (by omega)), if_neg (nI_nlt (by omega) (by omega)), nI_1, nI_1, a1, a2, r1, r2, bS, bS, q1, q2, bS, bS, bS, ← hl]
    generalize hcc : Lc (91 * (b + 1) + 7 * (t - x) + (f - y)) = cc at *
    by_cases c1 : (1000000000000 : Int64) ≤ cc
    · rw [if_pos c1, if_pos c1]
      refine step v (hM.skip x y (fun x' y' h => ⟨by omega, h.2⟩) (fun x' y' h => by omega) (fun z => ?_))
      rw [leL, F] at c1
      simp only [hcc] at z
      omega
    · rw [if_neg c1, if_neg c1, Int64.add_comm (wV P Q R b x y) cc]
      rw [leL, F] at c1
      unfold f_J9_min_f86c9
      by_cases c2 : v ≤ cc + wV P Q R b x y
      · rw [if_pos c2, if_neg (show ¬ cc + wV P Q R b x y < v by rw [ltL]; rw [leL] at c2; omega)]
        refine step v (hM.skip x y (fun x' y' h => ⟨by omega, h.2⟩) (fun x' y' h => by omega) (fun z => ?_))
        rw [leL] at c2
        simp only [hcc]
        exact c2
      · rw [if_neg c2, if_pos (show cc + wV P Q R b x y < v by rw [ltL]; rw [leL] at c2; omega)]
        rw [leL] at c2
        have := hM.take x y (D' := fun x' y' => (x' < x ∨ (x' = x ∧ y' < y + 1)) ∧ y' ≤ f) (fun x' y' h => ⟨by omega, h.2⟩) ⟨by omega, by omega⟩ (fun x' y' h => by omega) (by simp only [hcc]; omega) (by simp only [hcc]; omega)
        simp only [hcc] at this
        exact step _ this
theorem weigh_all (hn : n ≤ 6) (h1 : σ.1 1003 = nI n) (hP : σ.2.1 65 = P) (hQ : σ.2.1 66 = Q) (hR : σ.2.1 67 = R) (hP' : τ.2.1 57 = P) (hQ' : τ.2.1 58 = Q) (hR' : τ.2.1 59 = R) {Lc Lm : Nat → Int64} {b t f : Nat} (hb : b < n) (ht : t ≤ 12) (hf : f ≤ 6) (hL : ∀ t' f', t' ≤ t → f' ≤ f → Lc (91 * (b + 1) + 7 * t' + f') = Lm (91 * (b + 1) + 7 * t' + f')) :
    ∀ (k x m m' : Nat) (v : Int64), x + k = t + 1 → k < m → k < m' → Mn (fun x' y' => x' < x ∧ y' ≤ f) (fun x' y' => Lc (91 * (b + 1) + 7 * (t - x') + (f - y'))) (wV P Q R b) v → ∃ v', f_X0_weigh_8 (nI b) (nI t) (nI f) (stL σ 68 Lc) m v (nI x) = some v' ∧ f_X11_bestFrom_8 (nI b) (nI t) (nI f) (stL τ 60 Lm) m' v (nI x) = some v' ∧ Mn (fun x' y' => x' ≤ t ∧ y' ≤ f) (fun x' y' => Lc (91 * (b + 1) + 7 * (t - x') + (f - y'))) (wV P Q R b) v' := by
  intro k
  induction k with
  | zero =>
    intro x m m' v e1 e2 e3 hM
    obtain ⟨m, rfl⟩ : ∃ q, m = q + 1 := ⟨m - 1, by omega⟩
    obtain ⟨m', rfl⟩ : ∃ q, m' = q + 1 := ⟨m' - 1, by omega⟩
    refine ⟨v, ?_, ?_, ⟨hM.1.elim Or.inl (fun ⟨x', y', a, c⟩ => Or.inr ⟨x', y', ⟨by omega, a.2⟩, c⟩), fun x' y' hd hc => hM.2 x' y' ⟨by omega, hd.2⟩ hc⟩⟩
    · unfold f_X0_weigh_8; rw [if_pos (nI_lt (by omega) (by omega))]
    · unfold f_X11_bestFrom_8; rw [if_pos (nI_lt (by omega) (by omega))]
  | succ k ih =>
    intro x m m' v e1 e2 e3 hM
    obtain ⟨m, rfl⟩ : ∃ q, m = q + 1 := ⟨m - 1, by omega⟩
    obtain ⟨m', rfl⟩ : ∃ q, m' = q + 1 := ⟨m' - 1, by omega⟩
    obtain ⟨v', z1, z2, z3⟩ := weigh_in hn h1 hP hQ hR hP' hQ' hR' hb ht hf (show x ≤ t by omega) hL (k8 := f_X0_weigh_8 (nI b) (nI t) (nI f) (stL σ 68 Lc) m) (k8' := f_X11_bestFrom_8 (nI b) (nI t) (nI f) (stL τ 60 Lm) m') (f + 1) 0 FU FU v (by omega) (by unfold FU; omega) (by unfold FU; omega) ⟨hM.1.elim Or.inl (fun ⟨x', y', a, c⟩ => Or.inr ⟨x', y', ⟨by omega, a.2⟩, c⟩), fun x' y' hd hc => hM.2 x' y' ⟨by omega, hd.2⟩ hc⟩
    obtain ⟨v2, y1, y2, y3⟩ := ih (x + 1) m m' v' (by omega) (by omega) (by omega) z3
    refine ⟨v2, ?_, ?_, y3⟩
    · unfold f_X0_weigh_8
      rw [if_neg (nI_nlt (by omega) (by omega))]
      exact z1.trans y1
    · unfold f_X11_bestFrom_8
      rw [if_neg (nI_nlt (by omega) (by omega))]
      exact z2.trans y2
end BX2
