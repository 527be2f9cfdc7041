/-! asking the law about a ship at a place and a minute -/
def wq (τ : St) (i a b m : Nat) (v8 : Int64) (k : Nat) : Int64 := if k = 0 then (nI m).toInt64 else if k = 1 then (nI a).toInt64 else if k = 2 then (nI b).toInt64 else if k = 3 then (τ.2.1 1 (24 * b + a)).toInt64 else if k = 4 then (τ.2.1 2 i).toInt64 else if k = 5 then (τ.2.1 3 i).toInt64 else if k = 6 then (τ.2.1 5 i).toInt64 else if k = 7 then (τ.2.1 4 i).toInt64 else v8
set_option maxHeartbeats 200000 in
theorem nine {P : Nat → Prop} (h0 : P 0) (h1 : P 1) (h2 : P 2) (h3 : P 3) (h4 : P 4) (h5 : P 5) (h6 : P 6) (h7 : P 7) (h8 : P 8) : ∀ k, k < 9 → P k := by
  intro k hk
  match k, hk with
  | 0, _ => exact h0
  | 1, _ => exact h1
  | 2, _ => exact h2
  | 3, _ => exact h3
  | 4, _ => exact h4
  | 5, _ => exact h5
  | 6, _ => exact h6
  | 7, _ => exact h7
  | 8, _ => exact h8
  | n + 9, h => exact absurd h (by omega)
set_option maxHeartbeats 200000 in
theorem ask_C {σ τ : St} (hs : M_shp σ τ) (hd : M_dep σ τ) {i a b : Nat} (m : Nat) (hi : ¬ f_X7_has (nI i) σ = 0) (hi4 : i < 40) (ha : a < 24) (hb : b < 24) : ∃ G, f_X10_askOf (nI i) (nI a) (nI b) (nI m) σ = some (stL σ 11 G) ∧ ∀ k, k < 9 → G k = wq τ i a b m 0 k := by
  obtain ⟨n, hn, s1, s2, s3, s4, s5, s6⟩ := hs
  obtain ⟨F, f1, f2⟩ := fillL (a := 11) (N := 9) 0 (fun _ => rfl) (by omega) (σ := σ)
  have hc : ¬ f_X6_isCell (nI a) (nI b) = 0 := by
    rw [cell0, nI_toInt (show a < 2 ^ 31 by omega), nI_toInt (show b < 2 ^ 31 by omega)]
    exact not_not_intro ⟨by omega, by omega, by omega, by omega⟩
  refine ⟨vp_updL (vp_updL (vp_updL (vp_updL (vp_updL (vp_updL (vp_updL (vp_updL F 0 (nI m).toInt64) 1 (nI a).toInt64) 2 (nI b).toInt64) 3 (σ.2.1 14 (24 * b + a)).toInt64) 4 (σ.2.1 18 i).toInt64) 5 (σ.2.1 19 i).toInt64) 6 (σ.2.1 21 i).toInt64) 7 (σ.2.1 20 i).toInt64, ?_, ?_⟩
  · unfold f_X10_askOf f_X6_depthAt
    rw [f1, bS, show wl tC (stL σ 11 F) 11 0 (nI m).toInt64 = _ from wlC_11 (i := 0) (by decide), bS, sLs, show ∀ s v, wl tC s 11 1 v = some (sL s 11 1 v) from fun s v => wlC_11 (i := 1) (by decide), bS, sLs, show ∀ s v, wl tC s 11 2 v = some (sL s 11 2 v) from fun s v => wlC_11 (i := 2) (by decide), bS, sLs, if_neg hc, show (24 : Int32) * nI b + nI a = nI (24 * b + a) from ixc 24 _ _, rdC_14 (by omega), bS, bS, show ∀ s v, wl tC s 11 3 v = some (sL s 11 3 v) from fun s v => wlC_11 (i := 3) (by decide), bS, sLs, if_neg (show ¬ f_X7_has (nI i) (stL σ 11 _) = 0 from hi), rdC_18 hi4, bS, show ∀ s v, wl tC s 11 4 v = some (sL s 11 4 v) from fun s v => wlC_11 (i := 4) (by decide), bS, sLs, rdC_19 hi4, bS, show ∀ s v, wl tC s 11 5 v = some (sL s 11 5 v) from fun s v => wlC_11 (i := 5) (by decide), bS, sLs, rdC_21 hi4, bS, show ∀ s v, wl tC s 11 6 v = some (sL s 11 6 v) from fun s v => wlC_11 (i := 6) (by decide), bS, sLs, rdC_20 hi4, bS, show ∀ s v, wl tC s 11 7 v = some (sL s 11 7 v) from fun s v => wlC_11 (i := 7) (by decide), bS, sLs]
    simp only [stL2]
  · rw [s3, s4, s5, s6, show σ.2.1 14 = τ.2.1 1 from hd]
    refine nine ?_ ?_ ?_ ?_ ?_ ?_ ?_ ?_ ?_
    all_goals (repeat rw [updL_ne _ _ (by decide)])
    all_goals first | rw [updL_at] | rw [f2 8 (by omega)]
    all_goals rfl
set_option maxHeartbeats 200000 in
theorem ask_M {τ τ1 : St} {i a b m : Nat} {v8 : Int32} (hi4 : i < 40) (ha : a < 24) (hb : b < 24) (e : τ1 = sF (sF (sF (sF (sF τ 47 (nI m)) 48 (nI i)) 49 (nI a)) 50 (nI b)) 51 v8) (B : Nat → Int64) : ∀ k, k < 9 → f_X11_wordNow (nI k) (stL τ1 33 B) = some (wq τ i a b m v8.toInt64 k) := by
  have g7 : gF (stL τ1 33 B) 47 = nI m := by rw [e]; rfl
  have g8 : gF (stL τ1 33 B) 48 = nI i := by rw [e]; rfl
  have g9 : gF (stL τ1 33 B) 49 = nI a := by rw [e]; rfl
  have g0 : gF (stL τ1 33 B) 50 = nI b := by rw [e]; rfl
  have g1 : gF (stL τ1 33 B) 51 = v8 := by rw [e]; rfl
  have g2 : (stL τ1 33 B).2.1 = τ.2.1 := by rw [e]; rfl
  have z : (0 : Int32) ≤ nI i := nI_le (a := 0) (Nat.zero_le _) (by omega)
  have nz : ∀ p q : Nat, p < 100 → q < 100 → p ≠ q → ¬ nI p = nI q := fun p q hp hq h => by rw [nI_eqE (by omega) (by omega)]; exact h
  intro k hk
  unfold f_X11_wordNow
  rw [g7, g8, g9, g0, g1, if_pos z, show (24 : Int32) * nI b + nI a = nI (24 * b + a) from ixc 24 _ _, rdM_1 (by omega), rdM_2 hi4, rdM_3 hi4, rdM_4 hi4, rdM_5 hi4, g2]
  revert hk
  revert k
  refine nine ?_ ?_ ?_ ?_ ?_ ?_ ?_ ?_ ?_
  all_goals rfl
section May
variable {σ τ : St} {L : List Stt} {ks : Nat → Nat} {Ln : Nat}
set_option maxHeartbeats 200000 in
theorem may_both (H : LawS σ τ L ks Ln) (hs : M_shp σ τ) (hd : M_dep σ τ) (hp : M_pts σ τ) {x t i a b m : Nat} (hx : x < 3) (ht : t ≤ 4) (hi : ¬ f_X7_has (nI i) σ = 0) (hi4 : i < 40) (ha : a < 24) (hb : b < 24) (hm : m < 9000) : ∃ (r : Option (Nat × Nat)) (σ' τ' : St), f_X10_findMay (nI x) (nI t) (nI i) (nI a) (nI b) (nI m) σ = some (tJ r, σ') ∧ f_X11_mayBy (nI x) (nI t) (nI i) (nI a) (nI b) (nI m) τ = some (tK r, τ') ∧ Fr [] [] [11, 12, 44] σ σ' ∧ Fr [47, 48, 49, 50, 51] [] [33] τ τ' ∧ (∀ p, r = some p → p.1 < L.length ∧ p.2 < (gS L p.1).2.2.2.length ∧ (gC (gS L p.1) p.2).1 = t) := by
  obtain ⟨G, c1, c2⟩ := ask_C hs hd m hi hi4 ha hb
  have f0 : Fr [] [] [11, 12, 44] σ (stL σ 11 G) := Fr.rf.wSL (by decide)
  have f0' : Fr [47, 48, 49, 50, 51] [] [33] τ τ := Fr.rf
  obtain ⟨j, hj, ej⟩ : ∃ j, j < 2 ∧ (if nI x = 2 then 0 else nI x : Int32) = nI j := by
    match x, hx with
    | 0, _ => exact ⟨0, by omega, rfl⟩
    | 1, _ => exact ⟨1, by omega, rfl⟩
    | 2, _ => exact ⟨0, by omega, rfl⟩
    | n + 3, h => exact absurd h (by omega)
  obtain ⟨r, σ1, τ1, r1, r2, r3, r4⟩ := reach_both (H.fr f0 f0' (by decide) (by decide)) (nI j) hm
  have f1 : Fr [] [] [11, 12, 44] σ σ1 := f0.tr (r3.up (by decide))
  obtain ⟨v, v1, v2⟩ := near_eq (hp.fr f1 r4 (by decide)) hj 0 (nI a) (nI b) r
  have e11 : σ1.2.2 11 = G := (r3.2.2 11 (by decide)).trans (stL_at _ _ _)
  have f2 : Fr [] [] [11, 12, 44] σ (stL σ1 11 (vp_updL G 8 (if v = 0 then 0 else 1))) := f1.wSL (by decide)
  have f2' : Fr [47, 48, 49, 50, 51] [] [33] τ (sF (sF (sF (sF (sF τ1 47 (nI m)) 48 (nI i)) 49 (nI a)) 50 (nI b)) 51 (if v = 0 then 0 else 1)) := ((((r4.wF (by decide)).wF (by decide)).wF (by decide)).wF (by decide)).wF (by decide)
  have H2 := H.fr f2 f2' (by decide) (by decide)
  have eq1 : τ1.2.1 = τ.2.1 := by funext k; exact r4.2.1 k (by simp)
  have W : WD (stL σ1 11 (vp_updL G 8 (if v = 0 then 0 else 1))) (sF (sF (sF (sF (sF τ1 47 (nI m)) 48 (nI i)) 49 (nI a)) 50 (nI b)) 51 (if v = 0 then 0 else 1)) 11 := by
    refine ⟨wq τ1 i a b m (if v = 0 then 0 else 1 : Int32).toInt64, fun _ => rfl, by decide, ?_, fun k hk B => ask_M hi4 ha hb rfl B k hk⟩
    rw [stL_at]
    have c2' : ∀ k, k < 9 → G k = wq τ1 i a b m 0 k := by
      intro k hk
      rw [c2 k hk]; unfold wq; rw [eq1]
    refine nine ?_ ?_ ?_ ?_ ?_ ?_ ?_ ?_ ?_
    · exact (updL_ne _ _ (by decide)).trans (c2' 0 (by omega))
    · exact (updL_ne _ _ (by decide)).trans (c2' 1 (by omega))
    · exact (updL_ne _ _ (by decide)).trans (c2' 2 (by omega))
    · exact (updL_ne _ _ (by decide)).trans (c2' 3 (by omega))
    · exact (updL_ne _ _ (by decide)).trans (c2' 4 (by omega))
    · exact (updL_ne _ _ (by decide)).trans (c2' 5 (by omega))
    · exact (updL_ne _ _ (by decide)).trans (c2' 6 (by omega))
    · exact (updL_ne _ _ (by decide)).trans (c2' 7 (by omega))
    · rw [updL_at]
      show _ = (if v = 0 then 0 else 1 : Int32).toInt64
      split <;> rfl
  generalize hσ : stL σ1 11 (vp_updL G 8 (if v = 0 then 0 else 1)) = σ2 at f2 H2 W
  generalize hτ : sF (sF (sF (sF (sF τ1 47 (nI m)) 48 (nI i)) 49 (nI a)) 50 (nI b)) 51 (if v = 0 then 0 else 1) = τ2 at f2' H2 W
  obtain ⟨p, A', B', t1, t2, t3⟩ := tell_both H2 W (x1 := nI x) (t := t) (by omega) hm (σ2.2.2 44) (τ2.2.2 33)
  rw [stL_same] at t1 t2
  refine ⟨p, stL σ2 44 A', stL τ2 33 B', ?_, ?_, f2.wSL (by decide), f2'.wSL (by decide), t3⟩
  · unfold f_X10_findMay
    rw [c1, bS, bndE, ej, r1, bS]
    show (f_X6_isNear (nI j) 0 (nI a) (nI b) r σ1).bind _ = _
    rw [v1, bS, bndE]
    show (wl tC σ1 11 8 (if v = 0 then 0 else 1)).bind _ = _
    rw [show wl tC σ1 11 8 (if v = 0 then 0 else 1) = _ from wlC_11 (i := 8) (by decide), bS, sL_st, e11, hσ, t1, bS]
  · unfold f_X11_mayBy
    rw [bndE, ej, r2, bS]
    show (f_X11_isNear (nI j) 0 (nI a) (nI b) r τ1).bind _ = _
    rw [v2, bS, bndE]
    unfold f_X11_asks
    show (some _).bind _ = _
    rw [bS]
    have e2 : (2 : Int32) + nI t = nI (thM t) := by
      unfold thM
      rw [if_pos (show t < 5 by omega), Nat.add_comm]
      exact nI_add 2 t
    show (f_X11_telling (nI x) (2 + nI t) (nI m) (sF (sF (sF (sF (sF τ1 47 (nI m)) 48 (nI i)) 49 (nI a)) 50 (nI b)) 51 (if v = 0 then 0 else 1))).bind _ = _
    rw [hτ, e2, t2, bS]
set_option maxHeartbeats 200000 in
theorem mesh_both (H : LawS σ τ L ks Ln) (hs : M_shp σ τ) (hd : M_dep σ τ) {x i a b m : Nat} (hi : ¬ f_X7_has (nI i) σ = 0) (hi4 : i < 40) (ha : a < 24) (hb : b < 24) (hm : m < 9000) : ∃ (r : Int64) (σ' τ' : St), f_X10_meshFor (nI x) (nI i) (nI a) (nI b) (nI m) σ = some (r, σ') ∧ f_X11_meshOf (nI x) (nI i) (nI a) (nI b) (nI m) τ = some (r, τ') ∧ Fr [] [] [11, 12, 44] σ σ' ∧ Fr [47, 48, 49, 50, 51] [] [33] τ τ' := by
  obtain ⟨G, c1, c2⟩ := ask_C hs hd m hi hi4 ha hb
  have f2 : Fr [] [] [11, 12, 44] σ (stL σ 11 G) := Fr.rf.wSL (by decide)
  have f2' : Fr [47, 48, 49, 50, 51] [] [33] τ (sF (sF (sF (sF (sF τ 47 (nI m)) 48 (nI i)) 49 (nI a)) 50 (nI b)) 51 0) := ((((Fr.rf.wF (by decide)).wF (by decide)).wF (by decide)).wF (by decide)).wF (by decide)
  have H2 := H.fr f2 f2' (by decide) (by decide)
  have W : WD (stL σ 11 G) (sF (sF (sF (sF (sF τ 47 (nI m)) 48 (nI i)) 49 (nI a)) 50 (nI b)) 51 0) 11 := by
    refine ⟨wq τ i a b m (0 : Int32).toInt64, fun _ => rfl, by decide, ?_, fun k hk B => ask_M hi4 ha hb rfl B k hk⟩
    rw [stL_at]
    exact c2
  generalize hσ : stL σ 11 G = σ2 at f2 H2 W
  generalize hτ : sF (sF (sF (sF (sF τ 47 (nI m)) 48 (nI i)) 49 (nI a)) 50 (nI b)) 51 0 = τ2 at f2' H2 W
  obtain ⟨r, A', B', t1, t2, t3⟩ := tell_both H2 W (x1 := nI x) (t := 6) (by omega) hm (σ2.2.2 44) (τ2.2.2 33)
  rw [stL_same] at t1 t2
  have u1 : f_X10_meshFor (nI x) (nI i) (nI a) (nI b) (nI m) σ = (f_X2_sumOf 11 (tJ r) (stL σ2 44 A')).bind fun u6 => some (u6.1, u6.2) := by
    unfold f_X10_meshFor
    rw [c1, bS, hσ, show f_X2_findClause 11 (nI x) 6 (nI m) σ2 = _ from t1, bS]
  have u2 : f_X11_meshOf (nI x) (nI i) (nI a) (nI b) (nI m) τ = (if 0 ≤ tK r then ((rd tM (stL τ2 33 B') 24 (tK r)).bind fun v13 => (rd tM (stL τ2 33 B') 25 (tK r)).bind fun v14 => (f_X11_works v13 v14 (tK r / 12) (stL τ2 33 B')).bind fun u15 => some (u15.1, u15.2)) else some (0, stL τ2 33 B')) := by
    unfold f_X11_meshOf f_X11_asks
    rw [bndE, bndE, bndE, bndE, bndE, bS, hτ, show f_X11_telling (nI x) 1 (nI m) τ2 = _ from t2, bS]
  cases r with
  | none =>
    rw [if_neg (by decide)] at u2
    refine ⟨0, stL σ2 44 A', stL τ2 33 B', ?_, u2, f2.wSL (by decide), f2'.wSL (by decide)⟩
    rw [u1]; rfl
  | some p =>
    obtain ⟨p1, p2, p3⟩ := t3 p rfl
    have hL := H.1
    have hCn := (H.2.2.2.2.2.1 p.1 p1).2.2.1.2.2.1
    obtain ⟨v, A2, B2, o1, o2, s1, s2, s3, s4⟩ := sum_both H2 W p1 p2 (Or.inr p3) A' B'
    rw [show tJ (some p) = nI (16 * p.1 + p.2) from rfl, s1, bS] at u1
    rw [show tK (some p) = nI (12 * p.1 + p.2) from rfl, if_pos (show (0 : Int32) ≤ nI (12 * p.1 + p.2) from nI_le (a := 0) (Nat.zero_le _) (by omega)), s2, bS, s3, bS, div12 p.1 (by omega) p.2 (by omega), s4, bS] at u2
    exact ⟨v, stL σ2 44 A2, stL τ2 33 B2, u1, u2, f2.wSL (by decide), f2'.wSL (by decide)⟩
end May
