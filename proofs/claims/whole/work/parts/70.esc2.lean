/-! escort: from the first box on -/
section E2
variable {n : Nat} {P Q R : Nat → Int32} {Lc Lm : Nat → Int64}
theorem first_loop (hn : n ≤ 6) {T F : Nat} (hT : T ≤ 12) (hF : F ≤ 6) (hBP : Bn 9999 P) (hBQ : Bn 999 Q) (hBR : Bn 99 R) (hW : Rw P Q R n T F 0 Lc Lm) :
    ∀ (k b m m' t f : Nat) (cu : Int32) (σ τ : St), b + k = n → k < m → k < m' → t ≤ T → f ≤ F → σ.1 1003 = nI n → τ.1 83 = nI n → (σ.2.1 65 = P ∧ σ.2.1 66 = Q ∧ σ.2.1 67 = R) → (τ.2.1 57 = P ∧ τ.2.1 58 = Q ∧ τ.2.1 59 = R) → σ.2.2 68 = Lc → τ.2.2 60 = Lm → σ.1 1007 = τ.1 90 → σ.2.1 69 = τ.2.1 61 → σ.2.1 70 = τ.2.1 62 →
    ∃ (r : Int32) (σ' τ' : St), f_X0_takeFirst_24 m (nI t) (nI f) cu (nI b) σ = some (r, σ') ∧ f_X11_escort_193 m' (nI t) (nI f) cu (nI b) τ = some (r, τ') ∧ σ'.1 1007 = τ'.1 90 ∧ (τ'.1 88 = 1 ∧ τ'.1 89 = nI n) ∧ σ'.2.1 69 = τ'.2.1 61 ∧ σ'.2.1 70 = τ'.2.1 62 ∧ Fr [1007] [69, 70] [] σ σ' ∧ Fr [88, 89, 90] [61, 62] [] τ τ' := by
  intro k
  induction k with
  | zero =>
    intro b m m' t f cu σ τ e1 e2 e3 ht hf s1 s2 s3 s4 s5 s6 s7 s8 s9
    obtain ⟨m, rfl⟩ : ∃ q, m = q + 1 := ⟨m - 1, by omega⟩
    obtain ⟨m', rfl⟩ : ∃ q, m' = q + 1 := ⟨m' - 1, by omega⟩
    refine ⟨cu, σ, sF (sF τ 88 1) 89 (nI n), ?_, ?_, s7, ⟨rfl, rfl⟩, s8, s9, Fr.rf, (Fr.rf.wF (by decide)).wF (by decide)⟩
    · unfold f_X0_takeFirst_24
      rw [if_pos (by unfold gF; rw [s1]; exact nI_le (by omega) (by omega))]
    · unfold f_X11_escort_193 f_X11_escort_286
      rw [if_pos (by unfold gF; rw [s2]; exact nI_le (by omega) (by omega)), bndE, bndE, show gF (sF τ 88 1) 83 = nI n from s2]
  | succ k ih =>
    intro b m m' t f cu σ τ e1 e2 e3 ht hf s1 s2 s3 s4 s5 s6 s7 s8 s9
    obtain ⟨m, rfl⟩ : ∃ q, m = q + 1 := ⟨m - 1, by omega⟩
    obtain ⟨m', rfl⟩ : ∃ q, m' = q + 1 := ⟨m' - 1, by omega⟩
    obtain ⟨p1, p2, p3⟩ := s3
    obtain ⟨p4, p5, p6⟩ := s4
    have fin := hW.fin hT hF hBP hBQ hBR k b (by omega) t f ht hf
    have gd := hW.1 b (by omega) (by omega) t f ht hf
    have hL : ∀ t' f', t' ≤ t → f' ≤ f → σ.2.2 68 (91 * (b + 1) + 7 * t' + f') = τ.2.2 60 (91 * (b + 1) + 7 * t' + f') := by
      intro t' f' a c
      rw [s5, s6]
      by_cases d : b + 1 = n
      · rw [d]; exact (hW.2 t' f' (by omega) (by omega)).1
      · exact (hW.1 (b + 1) (by omega) (by omega) t' f' (by omega) (by omega)).1
    have hA : σ.2.2 68 (91 * b + 7 * t + f) = τ.2.2 60 (91 * b + 7 * t + f) := by rw [s5, s6]; exact gd.1
    have hex : ∃ x' y', 0 ≤ x' ∧ x' ≤ t ∧ y' ≤ f ∧ (σ.2.2 68 (91 * (b + 1) + 7 * (t - x') + (f - y'))).toInt < 1000000000000 ∧ σ.2.2 68 (91 * (b + 1) + 7 * (t - x') + (f - y')) + wV P Q R b x' y' = σ.2.2 68 (91 * b + 7 * t + f) := by
      rw [s5]
      rcases gd.2.1 with z | ⟨x', y', d, c1, c2⟩
      · omega
      · exact ⟨x', y', by omega, d.1, d.2, c1, c2⟩
    obtain ⟨x, y, w1, w2, w3, w4, w5⟩ := take_out hn s1 p1 p2 p3 p4 p5 p6 (show b < n by omega) (show t ≤ 12 by omega) (show f ≤ 6 by omega) hL hA (t + 1) 0 FU FU (by omega) (by unfold FU; omega) (by unfold FU; omega) hex
    have tkC : f_X0_takeIn (nI b) (nI t) (nI f) σ = some (sA (sA σ 69 b (nI x)) 70 b (nI y)) := by
      unfold f_X0_takeIn
      rw [lfC1 (by omega) (by omega) (by omega), bS]
      exact w4
    have tM' : f_X11_gives (nI b) (nI t) (nI f) τ = some (sA (sA τ 61 b (nI x)) 62 b (nI y)) := w5
    have b6 : b < 6 := by omega
    have r1 : rd tC (sA (sA σ 69 b (nI x)) 70 b (nI y)) 69 (nI b) = some (nI x) := by rw [rdC_69 b6]; show some (upd (σ.2.1 69) b (nI x) b) = _; rw [upd_at]
    have r2 : rd tC (sA (sA σ 69 b (nI x)) 70 b (nI y)) 70 (nI b) = some (nI y) := by rw [rdC_70 b6]; show some (upd (σ.2.1 70) b (nI y) b) = _; rw [upd_at]
    have r3 : rd tM (sA (sA τ 61 b (nI x)) 62 b (nI y)) 61 (nI b) = some (nI x) := by rw [rdM_61 b6]; show some (upd (τ.2.1 61) b (nI x) b) = _; rw [upd_at]
    have r4 : rd tM (sA (sA τ 61 b (nI x)) 62 b (nI y)) 62 (nI b) = some (nI y) := by rw [rdM_62 b6]; show some (upd (τ.2.1 62) b (nI y) b) = _; rw [upd_at]
    have c1 : f_X0_cutOf (nI b) (nI x) (nI y) (sA (sA σ 69 b (nI x)) 70 b (nI y)) = some (cuV R b x y) := cutC hn s1 p3 (by omega)
    have c2 : f_X0_caughtOf (nI b) (nI x) (sA (sA σ 69 b (nI x)) 70 b (nI y)) = some (caV P Q b x) := cauC hn s1 p1 p2 (by omega)
    have c3 : f_X11_cut (nI b) (nI x) (nI y) (sA (sA τ 61 b (nI x)) 62 b (nI y)) = some (cuV R b x y) := cutM p6 b6
    have c4 : f_X11_caughtIn (nI b) (nI x) (sA (sA τ 61 b (nI x)) 62 b (nI y)) = some (caV P Q b x) := cauM p4 p5 b6
    have a1 : nI t - nI x = nI (t - x) := pk_sub w1
    have a2 : nI f - nI y = nI (f - y) := pk_sub w2
    obtain ⟨r, σ', τ', g1, g2, g3, g4, g5, g6, g7, g8⟩ := ih (b + 1) m m' (t - x) (f - y) (cu + cuV R b x y) (sF (sA (sA σ 69 b (nI x)) 70 b (nI y)) 1007 (σ.1 1007 + caV P Q b x)) (sF (sA (sA τ 61 b (nI x)) 62 b (nI y)) 90 (τ.1 90 + caV P Q b x)) (by omega) (by omega) (by omega) (by omega) (by omega) s1 s2 ⟨p1, p2, p3⟩ ⟨p4, p5, p6⟩ s5 s6 (by show σ.1 1007 + _ = τ.1 90 + _; rw [s7]) (congrArg (upd · b (nI x)) s8) (congrArg (upd · b (nI y)) s9)
    refine ⟨r, σ', τ', ?_, ?_, g3, g4, g5, g6, (((Fr.rf.wA (by decide)).wA (by decide)).wF (by decide)).tr g7, (((Fr.rf.wA (by decide)).wA (by decide)).wF (by decide)).tr g8⟩
    · unfold f_X0_takeFirst_24
      rw [if_neg (by unfold gF; rw [s1]; exact nI_ge (by omega) (by omega)), tkC, bS, r1, bS, bndE, r2, bS, bndE, bS, bS, c1, bS, bndE, bS, c2, bS, bndE, bndE, nI_1, a1, a2]
      exact g1
    · unfold f_X11_escort_193
      rw [if_neg (by unfold gF; rw [s2]; exact nI_ge (by omega) (by omega)), tM', bS, r3, bS, bndE, r4, bS, bndE, bS, bS, c3, bS, bndE, bS, c4, bS, bndE, bndE, nI_1, a1, a2]
      exact g2
theorem init_in {τ : St} {T F : Int32} {n t : Nat} (hn : n ≤ 6) (h1 : τ.1 83 = nI n) (ht : t ≤ 12) {k28 : Int32 → St → Option (Int32 × St)} : ∀ (k f m : Nat) (L : Nat → Int64), f + k = 7 → k < m → (∀ t' f', (t' < t ∨ (t' = t ∧ f' < f)) → f' ≤ 6 → L (91 * n + 7 * t' + f') = if t' = 0 ∧ f' = 0 then 0 else 1000000000000) → ∃ L', f_X11_escort_37 T F (nI t) k28 m (nI f) (stL τ 60 L) = k28 (nI (t + 1)) (stL τ 60 L') ∧ ∀ t' f', t' < t + 1 → f' ≤ 6 → L' (91 * n + 7 * t' + f') = if t' = 0 ∧ f' = 0 then 0 else 1000000000000 := by
  intro k
  induction k with
  | zero =>
    intro f m L e1 e2 hL
    obtain ⟨m, rfl⟩ : ∃ q, m = q + 1 := ⟨m - 1, by omega⟩
    have : f = 7 := by omega
    subst this
    refine ⟨L, ?_, fun t' f' a c => hL t' f' (by omega) c⟩
    unfold f_X11_escort_37 f_X11_escort_81
    rw [if_pos (show (6 : Int32) < nI 7 from nI_lt (a := 6) (by decide) (by decide)), bndE, nI_1]
  | succ k ih =>
    intro f m L e1 e2 hL
    obtain ⟨m, rfl⟩ : ∃ q, m = q + 1 := ⟨m - 1, by omega⟩
    have h6 : ¬ (6 : Int32) < nI f := fun z => by have := (nI_ltI (a := 6) (by decide) (by omega)).mp z; omega
    have step : ∀ v : Int64, v = (if t = 0 ∧ f = 0 then 0 else 1000000000000) → ∃ L', f_X11_escort_37 T F (nI t) k28 m (nI (f + 1)) (stL τ 60 (vp_updL L (91 * n + 7 * t + f) v)) = k28 (nI (t + 1)) (stL τ 60 L') ∧ ∀ t' f', t' < t + 1 → f' ≤ 6 → L' (91 * n + 7 * t' + f') = if t' = 0 ∧ f' = 0 then 0 else 1000000000000 := by
      intro v hv
      refine ih (f + 1) m _ (by omega) (by omega) (fun t' f' a c => ?_)
      by_cases d : t' = t ∧ f' = f
      · obtain ⟨rfl, rfl⟩ := d
        rw [updL_at]; exact hv
      · rw [updL_ne _ _ (by omega)]; exact hL t' f' (by omega) c
    have pl : f_X11_place (gF (stL τ 60 L) 83) (nI t) (nI f) = nI (91 * n + 7 * t + f) := by rw [show gF (stL τ 60 L) 83 = nI n from h1]; exact plM n t f
    have e0 : ∀ a : Nat, a < 100 → (nI a = 0) = (a = 0) := fun a ha => nI_eqE (b := 0) (by omega) (by decide)
    unfold f_X11_escort_37 f_X11_escort_71 f_X11_escort_74
    simp only [bndE]
    rw [if_neg h6, pl, wlM_60 (by omega), bS, sLs, nI_1, wlM_60 (by omega), bS, sLs]
    by_cases c : t = 0
    · rw [if_pos (by rw [e0 t (by omega)]; exact c)]
      by_cases d : f = 0
      · rw [if_pos (by rw [e0 f (by omega)]; exact d)]
        exact step _ (by rw [if_pos ⟨c, d⟩])
      · rw [if_neg (by rw [e0 f (by omega)]; exact d)]
        exact step _ (by rw [if_neg (fun z => d z.2)])
    · rw [if_neg (by rw [e0 t (by omega)]; exact c)]
      exact step _ (by rw [if_neg (fun z => c z.1)])
theorem init_out {τ : St} {T F : Int32} {n : Nat} (hn : n ≤ 6) (h1 : τ.1 83 = nI n) : ∀ (k t m : Nat) (L : Nat → Int64), t + k = 13 → k < m → (∀ t' f', t' < t → f' ≤ 6 → L (91 * n + 7 * t' + f') = if t' = 0 ∧ f' = 0 then 0 else 1000000000000) → ∃ L', f_X11_escort_28 T F m (nI t) (stL τ 60 L) = f_X11_escort_87 T F (stL τ 60 L') ∧ ∀ t' f', t' ≤ 12 → f' ≤ 6 → L' (91 * n + 7 * t' + f') = if t' = 0 ∧ f' = 0 then 0 else 1000000000000 := by
  intro k
  induction k with
  | zero =>
    intro t m L e1 e2 hL
    obtain ⟨m, rfl⟩ : ∃ q, m = q + 1 := ⟨m - 1, by omega⟩
    have : t = 13 := by omega
    subst this
    refine ⟨L, ?_, fun t' f' a c => hL t' f' (by omega) c⟩
    unfold f_X11_escort_28
    rw [if_pos (show (12 : Int32) < nI 13 from nI_lt (a := 12) (by decide) (by decide))]
  | succ k ih =>
    intro t m L e1 e2 hL
    obtain ⟨m, rfl⟩ : ∃ q, m = q + 1 := ⟨m - 1, by omega⟩
    have h12 : ¬ (12 : Int32) < nI t := fun z => by have := (nI_ltI (a := 12) (by decide) (by omega)).mp z; omega
    obtain ⟨L1, z1, z2⟩ := init_in (T := T) (F := F) hn h1 (show t ≤ 12 by omega) (k28 := f_X11_escort_28 T F m) 7 0 FU L (by omega) (by unfold FU; omega) (fun t' f' a c => hL t' f' (by omega) c)
    obtain ⟨L2, y1, y2⟩ := ih (t + 1) m L1 (by omega) (by omega) z2
    refine ⟨L2, ?_, y2⟩
    unfold f_X11_escort_28
    rw [if_neg h12]
    exact z1.trans y1
end E2
theorem o_escort (x y : Int32) {σ τ : St} (hb : M_box σ τ) (he : M_esc σ τ) : Op (f_X10_escort x y σ) (f_X11_escort x y τ) M_esc ([1007, 1008], [69, 70], [68]) ([88, 89, 90], [61, 62], [60]) σ τ := by
  obtain ⟨n, hn, h1, h2, a1, a2, a3, b1, b2, b3⟩ := id hb
  by_cases hg : (0 ≤ x.toInt ∧ x.toInt ≤ 12) ∧ 0 ≤ y.toInt ∧ y.toInt ≤ 6
  · obtain ⟨g1, g2⟩ := hg
    obtain ⟨T, hT, rfl⟩ := nI_btw (n := 12) g1.1 g1.2
    obtain ⟨F, hF, rfl⟩ := nI_btw (n := 6) g2.1 g2.2
    have l1 : ¬ f_X10_lies (nI T) 0 12 = 0 := by rw [lies0]; exact not_not_intro g1
    have l2 : ¬ f_X10_lies (nI F) 0 6 = 0 := by rw [lies0]; exact not_not_intro g2
    have l3 : ¬ f_X11_in (nI T).toInt64 0 12 = 0 := by rw [in0, wdL]; exact not_not_intro g1
    have l4 : ¬ f_X11_in (nI F).toInt64 0 6 = 0 := by rw [in0, wdL]; exact not_not_intro g2
    obtain ⟨Lm0, i1, i2⟩ := init_out (T := nI T) (F := nI F) hn h2 13 0 FU (τ.2.2 60) (by omega) (by unfold FU; omega) (fun t' f' a => absurd a (by omega))
    rw [stL_same] at i1
    have i1 : f_X11_escort_28 (nI T) (nI F) FU 0 τ = _ := i1
    have e0 : ∀ a : Nat, a < 100 → (nI a = 0) = (a = 0) := fun a ha => nI_eqE (b := 0) (by omega) (by decide)
    by_cases hz : n = 0 ∧ (0 < T ∨ 0 < F)
    · obtain ⟨rfl, hz⟩ := hz
      refine ⟨-2, σ, stL τ 60 Lm0, ?_, ?_, ?_, Fr.rf, Fr.rf.wSL (by decide)⟩
      · unfold f_X10_escort
        rw [if_neg l1, if_neg l2, if_pos (show gF σ 1003 = 0 from h1)]
        by_cases c : 0 < T
        · rw [if_pos (show (0 : Int32) < nI T from nI_lt (a := 0) c (by omega))]
        · rw [if_neg (show ¬ (0 : Int32) < nI T from nI_nlt (b := T) (a := 0) (by omega) (by decide)), if_neg (show ¬ nI F ≤ 0 from nI_nle (by omega) (by omega))]
      · unfold f_X11_escort
        rw [if_neg l3, if_neg l4, i1]
        unfold f_X11_escort_87
        rw [show gF (stL τ 60 Lm0) 83 = nI 0 from h2, bndE, fuel_s]
        unfold f_X11_escort_94
        rw [if_pos (by decide)]
        unfold f_X11_escort_156
        have e : f_X11_place 0 (nI T) (nI F) = nI (91 * 0 + 7 * T + F) := plM 0 T F
        rw [e, rlM_60 (by omega), bS, stL_at, i2 T F hT hF, if_neg (show ¬ (T = 0 ∧ F = 0) by omega), if_neg (by decide)]
      · exact ⟨he.1, he.2⟩
    · obtain ⟨Lc0, f1, f2⟩ := fillL (a := 68) (N := 637) 1000000000000 (fun _ => rfl) (by decide) (σ := σ)
      have hW : Rw (σ.2.1 65) (σ.2.1 66) (σ.2.1 67) n T F n (vp_updL Lc0 (91 * n) 0) Lm0 := by
        refine ⟨fun b c1 c2 => absurd c1 (by omega), fun t f ht hf => ?_⟩
        have e : vp_updL Lc0 (91 * n) 0 (91 * n + 7 * t + f) = if t = 0 ∧ f = 0 then 0 else 1000000000000 := by
          by_cases c : t = 0 ∧ f = 0
          · obtain ⟨rfl, rfl⟩ := c
            rw [if_pos ⟨rfl, rfl⟩]
            exact updL_at _ _ _
          · rw [if_neg c, updL_ne _ _ (by omega), f2 _ (by omega)]
        exact ⟨by rw [e, i2 t f (by omega) (by omega)], e⟩
      obtain ⟨Lc, Lm, r1, r2, r3⟩ := rows (σ := σ) (τ := τ) hn h1 rfl rfl rfl a1.symm a2.symm a3.symm hT hF n FU FU _ _ (Nat.le_refl _) (by unfold FU; omega) (by unfold FU; omega) hW
      obtain ⟨r, σ', τ', q1, q2, q3, q4, q5, q6, q7, q8⟩ := first_loop hn hT hF b1 b2 b3 r3 n 0 FU FU T F 0 (sF (sF (stL σ 68 Lc) 1007 0) 1008 (nI n)) (sF (stL τ 60 Lm) 90 0) (by omega) (by unfold FU; omega) (by unfold FU; omega) (Nat.le_refl _) (Nat.le_refl _) h1 h2 ⟨rfl, rfl, rfl⟩ ⟨a1.symm, a2.symm, a3.symm⟩ (stL_at σ 68 Lc) (stL_at τ 60 Lm) rfl he.1.1 he.1.2
      have e8 : σ'.1 1008 = nI n := (q7.1 1008 (by decide)).trans rfl
      refine ⟨r, σ', τ', ?_, ?_, ⟨⟨q5, q6⟩, Or.inr ⟨q4.1, q3, n, hn, e8, q4.2⟩⟩, (((Fr.rf.wSL (f := Lc) (k := 68) (by decide)).wF (k := 1007) (v := 0) (by decide)).wF (k := 1008) (v := nI n) (by decide)).tr (q7.up (by decide)), ((Fr.rf.wSL (f := Lm) (k := 60) (by decide)).wF (k := 90) (v := 0) (by decide)).tr (q8.up (by decide))⟩
      · have pl : f_X0_placeOf (nI n) 0 0 = nI (91 * n) := plC n 0 0
        have gv : f_X10_escort_43 (nI T) (nI F) σ = some (r, σ') := by
          unfold f_X10_escort_43 f_X0_give
          rw [f1, bS, show gF (stL σ 68 Lc0) 1003 = nI n from h1, pl, wlC_68 (by omega), bS, sLs, show gF (stL σ 68 (vp_updL Lc0 (91 * n) 0)) 1003 = nI n from h1, bndE, r1]
          unfold f_X0_give_49 f_X0_takeFirst
          rw [bndE, show gF (sF (stL σ 68 Lc) 1007 0) 1003 = nI n from h1, bndE, show f_X0_takeFirst_24 FU (nI T) (nI F) 0 0 _ = _ from q1]
          rfl
        unfold f_X10_escort
        rw [if_neg l1, if_neg l2]
        by_cases c : n = 0
        · rw [if_pos (show gF σ 1003 = 0 by unfold gF; rw [h1, c]; rfl), if_neg (show ¬ (0 : Int32) < nI T from nI_nlt (b := T) (a := 0) (by omega) (by decide)), if_pos (show nI F ≤ 0 from nI_le (b := 0) (by omega) (by decide))]
          exact gv
        · rw [if_neg (show ¬ gF σ 1003 = 0 by unfold gF; rw [h1]; exact nI_ne0 (by omega) (by omega))]
          exact gv
      · unfold f_X11_escort
        rw [if_neg l3, if_neg l4, i1]
        unfold f_X11_escort_87
        rw [show gF (stL τ 60 Lm0) 83 = nI n from h2, bndE, r2]
        unfold f_X11_escort_156
        have e : f_X11_place 0 (nI T) (nI F) = nI (91 * 0 + 7 * T + F) := plM 0 T F
        have hlt : Lm (91 * 0 + 7 * T + F) < 1000000000000 := by
          rw [ltL]
          have F1 : (1000000000000 : Int64).toInt = 1000000000000 := by simp only [Int64.reduceToInt]
          rw [F1]
          by_cases c : n = 0
          · have c2 : T = 0 ∧ F = 0 := by omega
            have := r3.2 T F (Nat.le_refl _) (Nat.le_refl _)
            rw [c, if_pos c2] at this
            rw [← this.1, this.2]
            decide
          · rw [← (r3.1 0 (by omega) (by omega) T F (Nat.le_refl _) (Nat.le_refl _)).1]
            exact r3.fin hT hF b1 b2 b3 (n - 1) 0 (by omega) T F (Nat.le_refl _) (Nat.le_refl _)
        rw [e, rlM_60 (by omega), bS, stL_at, if_pos hlt, bndE]
        exact q2
  · refine Op.no (-1) ?_ ?_ he
    · unfold f_X10_escort
      simp only [lies0, Int32.reduceToInt]
      by_cases c : 0 ≤ x.toInt ∧ x.toInt ≤ 12
      · rw [if_neg (not_not_intro c), if_pos (fun z => hg ⟨c, z⟩)]
      · rw [if_pos c]
    · unfold f_X11_escort
      simp only [in0, wdL, Int64.reduceToInt]
      by_cases c : 0 ≤ x.toInt ∧ x.toInt ≤ 12
      · rw [if_neg (not_not_intro c), if_pos (fun z => hg ⟨c, z⟩)]
      · rw [if_pos c]
