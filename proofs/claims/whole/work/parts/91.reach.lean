/-! reach: both ask the law -/
set_option maxHeartbeats 200000 in
theorem div16 : ∀ s, s < 12 → ∀ c, c < 12 → nI (16 * s + c) / 16 = nI s := by decide
set_option maxHeartbeats 200000 in
theorem div12 : ∀ s, s < 12 → ∀ c, c < 12 → nI (12 * s + c) / 12 = nI s := by decide
set_option maxHeartbeats 200000 in
theorem LawS.fr {σ τ σ' τ' : St} {L : List Stt} {ks : Nat → Nat} {Ln : Nat} {Ks As Ls Ks' As' Ls' : List Nat} (H : LawS σ τ L ks Ln) (f : Fr Ks As Ls σ σ') (g : Fr Ks' As' Ls' τ τ') (d : 400 ∉ Ks ∧ 3799 ∉ Ks ∧ (32 ∉ As ∧ 33 ∉ As ∧ 34 ∉ As ∧ 35 ∉ As ∧ 36 ∉ As ∧ 37 ∉ As) ∧ 38 ∉ As ∧ 39 ∉ As ∧ 40 ∉ As ∧ 41 ∉ As ∧ 42 ∉ As ∧ 43 ∉ As) (e : 25 ∉ Ks' ∧ (19 ∉ As' ∧ 20 ∉ As' ∧ 21 ∉ As' ∧ 22 ∉ As' ∧ 23 ∉ As' ∧ 24 ∉ As') ∧ 25 ∉ As' ∧ 26 ∉ As' ∧ 27 ∉ As' ∧ 28 ∉ As' ∧ 29 ∉ As') : LawS σ' τ' L ks Ln := by
  obtain ⟨d1, d2, ⟨d3, d4, d5, d6, d7, d8⟩, d9, d10, d11, d12, d13, d14⟩ := d
  obtain ⟨e1, ⟨e2, e3, e4, e5, e6, e7⟩, e8, e9, e10, e11, e12⟩ := e
  unfold LawS rC1 rM1 at H ⊢
  rw [f.1 400 d1, f.1 3799 d2, f.2.1 35 d6, g.1 25 e1]
  simp only [f.2.1 32 d3, f.2.1 33 d4, f.2.1 34 d5, f.2.1 36 d7, f.2.1 37 d8, f.2.1 38 d9, f.2.1 39 d10, f.2.1 40 d11, f.2.1 41 d12, f.2.1 42 d13, f.2.1 43 d14, g.2.1 19 e2, g.2.1 20 e3, g.2.1 21 e4, g.2.1 22 e5, g.2.1 23 e6, g.2.1 24 e7, g.2.1 25 e8, g.2.1 26 e9, g.2.1 27 e10, g.2.1 28 e11, g.2.1 29 e12]
  exact H
def M_law (σ τ : St) : Prop := ∃ (L : List Stt) (ks : Nat → Nat) (Ln K : Nat), LawS σ τ L ks Ln ∧ σ.1 407 = nI K ∧ K ≤ Ln ∧ K ≤ 400 * L.length ∧ 400 ≤ Ln ∧ Ln ≤ 5200 ∧ ∀ s, s < L.length → ks s + (gS L s).2.2.1.length ≤ K
section Sum
variable {σ τ : St} {L : List Stt} {ks : Nat → Nat} {Ln a3 : Nat}
set_option maxHeartbeats 200000 in
theorem sum_both (H : LawS σ τ L ks Ln) (W : WD σ τ a3) {s c : Nat} (hs : s < L.length) (hc : c < (gS L s).2.2.2.length) (ht : (gC (gS L s) c).1 = 5 ∨ (gC (gS L s) c).1 = 6) (A B : Nat → Int64) : ∃ (v : Int64) (A' B' : Nat → Int64) (o1 o2 : Int32), f_X2_sumOf a3 (nI (16 * s + c)) (stL σ 44 A) = some (v, stL σ 44 A') ∧ rd tM (stL τ 33 B) 24 (nI (12 * s + c)) = some o1 ∧ rd tM (stL τ 33 B) 25 (nI (12 * s + c)) = some o2 ∧ f_X11_works o1 o2 (nI s) (stL τ 33 B) = some (v, stL τ 33 B') := by
  have h0 := H
  obtain ⟨wd, ha, hane, hw, hwM⟩ := W
  obtain ⟨h1, h2, h3, h4, h5, h6, h7, h8⟩ := H
  obtain ⟨⟨a1, a2, a3', a4, a5⟩, ⟨b1, b2, b3, b4, b5⟩, ⟨c1, c2, c3, c4⟩, d⟩ := h6 s hs
  obtain ⟨p1, p2, p3, p4, p5, p6⟩ := a5 c hc
  obtain ⟨p1', p2', p3', p4', p5', p6'⟩ := b5 c hc
  obtain ⟨q1, q2, q3, q4, q5⟩ := c4 c hc
  obtain ⟨r1, r2, -⟩ := ev_sep h0 ha hane hw hwM hs (q3 ht)
  obtain ⟨A', r1⟩ := r1 A
  obtain ⟨B', r2⟩ := r2 B
  have H44 : LawS (stL σ 44 A) τ L ks Ln := h0
  refine ⟨_, A', B', _, _, ?_, by rw [rdM_24 (by omega), stL2, p4'], by rw [rdM_25 (by omega), stL2, p5'], r2⟩
  unfold f_X2_sumOf
  have hm : nI (16 * s + c) - nI (16 * s + c) / 16 * 16 = nI c := by
    rw [div16 s (by omega) c (by omega), show nI s * 16 = nI (s * 16) from pk_mul s 16, pk_sub (show s * 16 ≤ 16 * s + c by omega)]
    congr 1; omega
  rw [bndE, bndE, hm, div16 s (by omega) c (by omega), if_neg (by rw [nI_lt0 (by omega)]; exact fun h => h), has_eq H44 (by omega), if_pos hs, if_neg (by decide), if_pos (show nI c < 12 from nI_lt (b := 12) (by omega) (by decide)), show nI s * 12 + nI c = nI (12 * s + c) from ixd 12 _ _, rdC_41 (by omega), bS, rdC_42 (by omega), bS, stL2, p4, p5, r1, bS]
end Sum
set_option maxHeartbeats 200000 in
theorem ck40 {v : Int64} : (f_J9_max_f86c9 0 (f_J9_min_f86c9 40 v)).toInt32 = if 0 ≤ v then (if v ≤ 40 then v.toInt32 else 40) else 0 := by
  unfold f_J9_max_f86c9 f_J9_min_f86c9
  have z0 : (0 : Int64).toInt = 0 := by decide
  have z4 : (40 : Int64).toInt = 40 := by decide
  by_cases c0 : 0 ≤ v
  · rw [if_pos c0]
    by_cases c1 : v ≤ 40
    · rw [if_pos c1]
      by_cases c2 : v < 40
      · rw [if_pos c2, if_neg (by rw [Int64.lt_iff_toInt_lt]; rw [Int64.le_iff_toInt_le] at c0; omega)]
      · have : v = 40 := Int64.toInt_inj.mp (by rw [Int64.lt_iff_toInt_lt] at c2; rw [Int64.le_iff_toInt_le] at c1; omega)
        rw [this]; decide
    · rw [if_neg c1, if_neg (show ¬ v < 40 by rw [Int64.lt_iff_toInt_lt]; rw [Int64.le_iff_toInt_le] at c1; omega)]; decide
  · rw [if_neg c0, if_pos (show v < 40 by rw [Int64.lt_iff_toInt_lt]; rw [Int64.le_iff_toInt_le] at c0; omega), if_pos (show v < 0 by rw [Int64.lt_iff_toInt_lt]; rw [Int64.le_iff_toInt_le] at c0; omega)]; rfl
set_option maxHeartbeats 200000 in
theorem reach_both {σ τ : St} {L : List Stt} {ks : Nat → Nat} {Ln : Nat} (H : LawS σ τ L ks Ln) (x1 : Int32) {m : Nat} (hm : m < 9000) : ∃ (r : Int32) (σ' τ' : St), f_X10_reachOf x1 (nI m) σ = some (r, σ') ∧ f_X11_reachOf x1 (nI m) τ = some (r, τ') ∧ Fr [] [] [12, 44] σ σ' ∧ Fr [47, 48, 49, 50, 51] [] [33] τ τ' := by
  obtain ⟨F, f1, f2⟩ := fillL (a := 12) (N := 9) 0 (fun _ => rfl) (by omega) (σ := σ)
  have fs : Fr [] [] [12, 44] σ (stL σ 12 (vp_updL F 0 (nI m).toInt64)) := Fr.rf.wSL (by decide)
  have ft : Fr [47, 48, 49, 50, 51] [] [33] τ (sF (sF (sF (sF (sF τ 47 (nI m)) 48 (-1)) 49 (-1)) 50 (-1)) 51 0) := ((((Fr.rf.wF (by decide)).wF (by decide)).wF (by decide)).wF (by decide)).wF (by decide)
  have H' := H.fr fs ft (by decide) (by decide)
  have W : WD (stL σ 12 (vp_updL F 0 (nI m).toInt64)) (sF (sF (sF (sF (sF τ 47 (nI m)) 48 (-1)) 49 (-1)) 50 (-1)) 51 0) 12 := by
    refine ⟨vp_updL F 0 (nI m).toInt64, fun _ => rfl, by decide, fun k _ => by rw [stL_at], fun k hk B => ?_⟩
    unfold f_X11_wordNow
    by_cases e : k = 0
    · rw [e, if_pos (show nI 0 = 0 from rfl), updL_at]; rfl
    · rw [if_neg (by rw [show (0 : Int32) = nI 0 from rfl, nI_eqE (by omega) (by omega)]; exact e), updL_ne _ _ e, f2 k hk, if_neg (show ¬ (0 : Int32) ≤ gF (stL (sF (sF (sF (sF (sF τ 47 (nI m)) 48 (-1)) 49 (-1)) 50 (-1)) 51 0) 33 B) 48 from by show ¬ (0 : Int32) ≤ -1; decide)]
  generalize hσ : stL σ 12 (vp_updL F 0 (nI m).toInt64) = σ1 at fs H' W
  generalize hτ : sF (sF (sF (sF (sF τ 47 (nI m)) 48 (-1)) 49 (-1)) 50 (-1)) 51 0 = τ1 at ft H' W
  obtain ⟨r, A', B', t1, t2, t3⟩ := tell_both H' W (x1 := x1) (t := 5) (by omega) hm (σ1.2.2 44) (τ1.2.2 33)
  rw [stL_same] at t1 t2
  have u1 : f_X10_reachOf x1 (nI m) σ = (if tJ r = (-1) then some (3, stL σ1 44 A') else ((f_X2_sumOf 12 (tJ r) (stL σ1 44 A')).bind fun u12 => some ((f_J9_max_f86c9 0 (f_J9_min_f86c9 40 u12.1)).toInt32, u12.2))) := by
    unfold f_X10_reachOf
    rw [f1, bS, show wl tC (stL σ 12 F) 12 0 (nI m).toInt64 = _ from wlC_12 (i := 0) (by decide), bS, sLs, hσ, show f_X2_findClause 12 x1 5 (nI m) σ1 = _ from t1, bS]
  have u2 : f_X11_reachOf x1 (nI m) τ = (if 0 ≤ tK r then ((rd tM (stL τ1 33 B') 24 (tK r)).bind fun v13 => (rd tM (stL τ1 33 B') 25 (tK r)).bind fun v14 => (f_X11_works v13 v14 (tK r / 12) (stL τ1 33 B')).bind fun u15 => if 0 ≤ u15.1 then (if u15.1 ≤ 40 then some (u15.1.toInt32, u15.2) else some (40, u15.2)) else some (0, u15.2)) else some (3, stL τ1 33 B')) := by
    unfold f_X11_reachOf f_X11_asks
    rw [bndE, bndE, bndE, bndE, bndE, bS, hτ, show f_X11_telling x1 0 (nI m) τ1 = _ from t2, bS]
  cases r with
  | none =>
    rw [if_pos (show tJ none = -1 from rfl)] at u1
    rw [if_neg (by decide)] at u2
    exact ⟨3, _, _, u1, u2, fs.wSL (by decide), ft.wSL (by decide)⟩
  | some p =>
    obtain ⟨p1, p2, p3⟩ := t3 p rfl
    have hL := H.1
    have hCn := (H.2.2.2.2.2.1 p.1 p1).2.2.1.2.2.1
    obtain ⟨v, A2, B2, o1, o2, s1, s2, s3, s4⟩ := sum_both H' W p1 p2 (Or.inl p3) A' B'
    rw [show tJ (some p) = nI (16 * p.1 + p.2) from rfl, if_neg (show ¬ nI (16 * p.1 + p.2) = -1 from fun h => by have := nI_lt0 (n := 16 * p.1 + p.2) (by omega); rw [h] at this; exact absurd (show (-1 : Int32) < 0 by decide) (by rw [this]; exact fun h => h)), s1, bS, ck40] at u1
    rw [show tK (some p) = nI (12 * p.1 + p.2) from rfl, if_pos (show (0 : Int32) ≤ nI (12 * p.1 + p.2) from nI_le (a := 0) (Nat.zero_le _) (by omega)), s2, bS, s3, bS, div12 p.1 (by omega) p.2 (by omega), s4, bS] at u2
    refine ⟨_, _, stL τ1 33 B2, u1, ?_, (fs.wSL (by decide)), ft.wSL (by decide)⟩
    rw [u2]
    show (if 0 ≤ v then (if v ≤ 40 then some (v.toInt32, stL τ1 33 B2) else some (40, stL τ1 33 B2)) else some (0, stL τ1 33 B2)) = some (if 0 ≤ v then (if v ≤ 40 then v.toInt32 else 40) else 0, stL τ1 33 B2)
    split
    · split <;> rfl
    · rfl
