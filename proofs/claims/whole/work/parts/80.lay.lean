/-! the class's game: the box is laid, a minute is played -/
theorem fillI {a N : Nat} (v : Int32) (hN : ∀ σ, lnO tC σ a = N) (hB : N < 60000) {σ : St} : ∃ L, f_J7_fill_53178 a v σ = some (stA σ a L) ∧ ∀ i, i < N → L i = v := by
  have key : ∀ (k i m : Nat) (L : Nat → Int32), i + k = N → k < m → (∀ j, j < i → L j = v) → ∃ L', f_J7_fill_53178_5 a v (nI N) m (nI i) (stA σ a L) = some (stA σ a L') ∧ ∀ j, j < N → L' j = v := by
    intro k
    induction k with
    | zero =>
      intro i m L h1 h2 h3
      obtain ⟨m, rfl⟩ : ∃ q, m = q + 1 := ⟨m - 1, by omega⟩
      have : i = N := by omega
      subst this
      refine ⟨L, ?_, h3⟩
      unfold f_J7_fill_53178_5
      rw [if_pos (nI_le (Nat.le_refl _) (by omega))]
    | succ k ih =>
      intro i m L h1 h2 h3
      obtain ⟨m, rfl⟩ : ∃ q, m = q + 1 := ⟨m - 1, by omega⟩
      unfold f_J7_fill_53178_5
      rw [if_neg (nI_ge (by omega) (by omega)), wrN rfl (hN _) (show i < N by omega) (by omega), bS, bndE, nI_1, sA_st, stA_at, stA_2]
      refine ih (i + 1) m _ (by omega) (by omega) (fun j hj => ?_)
      by_cases c : j = i
      · subst c; exact upd_at _ _ _
      · rw [upd_ne _ _ c]; exact h3 j (by omega)
  obtain ⟨L, h1, h2⟩ := key N 0 FU (σ.2.1 a) (by omega) (by unfold FU; omega) (fun j hj => absurd hj (by omega))
  refine ⟨L, ?_, h2⟩
  unfold f_J7_fill_53178 lenI
  rw [hN, bndE]
  rw [stA_same] at h1
  exact h1
section LY
variable {w h : Nat}
/-- the cells ahead of c are laid -/
def LyP (w h c : Nat) (σ1 σ : St) : Prop := Fr [605, 606] [46] [] σ1 σ ∧ (∀ c', c' < c → ∀ i, i < 5 → σ.2.1 46 (5 * c' + i) = oI (nbr w h c' i)) ∧ (∀ i, i < 5 → σ.2.1 46 (125 + i) = oI (fnb w h 25 i)) ∧ (∀ i, i < 32 → bt (σ.1 605) i = decide (i < c ∧ 0 < i % w)) ∧ (∀ i, i < 32 → bt (σ.1 606) i = decide (i < c ∧ i % w + 1 < w))
theorem cell_xy {x y : Nat} (hw : 1 ≤ w ∧ w ≤ 5) (hx : x < w) : (w * y + x) % w = x ∧ (w * y + x) / w = y := by
  rcases box_w hw with rfl | rfl | rfl | rfl | rfl <;> omega
theorem cell_in {x y : Nat} (hx : x < w) (hy : y < h) : w * y + x < w * h := by
  have : w * (y + 1) ≤ w * h := Nat.mul_le_mul_left w hy
  rw [Nat.mul_succ] at this
  omega
theorem bt_or_if {v : Int32} {c : Nat} {p : Nat → Prop} [DecidablePred p] {q : Prop} [Decidable q] (hc : c < 25) (hb : ∀ i, i < 32 → bt v i = decide (i < c ∧ p i)) (hq : q ↔ ¬ p c) : ∀ i, i < 32 → bt (v ||| (if q then 0 else (1 : Int32) <<< (nI c &&& 31))) i = decide (i < c + 1 ∧ p i) := by
  intro i hi
  rw [b_or, hb i hi]
  by_cases z : q
  · rw [if_pos z, b_0, Bool.or_false]
    by_cases e : i = c
    · subst e
      rw [decide_eq_false (show ¬ (i < i ∧ p i) by omega), decide_eq_false (fun k => hq.mp z k.2)]
    · by_cases k : p i
      · by_cases l : i < c
        · rw [decide_eq_true ⟨l, k⟩, decide_eq_true ⟨by omega, k⟩]
        · rw [decide_eq_false (fun t => l t.1), decide_eq_false (fun t => by omega)]
      · rw [decide_eq_false (fun t => k t.2), decide_eq_false (fun t => k t.2)]
  · rw [if_neg z, b_one (by omega) hi]
    have pc : p c := Decidable.byContradiction (fun k => z (hq.mpr k))
    by_cases e : i = c
    · subst e
      rw [decide_eq_true (show i = i from rfl), Bool.or_true, decide_eq_true ⟨by omega, pc⟩]
    · rw [decide_eq_false e, Bool.or_false]
      by_cases k : p i
      · by_cases l : i < c
        · rw [decide_eq_true ⟨l, k⟩, decide_eq_true ⟨by omega, k⟩]
        · rw [decide_eq_false (fun t => l t.1), decide_eq_false (fun t => by omega)]
      · rw [decide_eq_false (fun t => k t.2), decide_eq_false (fun t => k t.2)]
theorem layCell (hw : 1 ≤ w ∧ w ≤ 5) (hh : 1 ≤ h ∧ h ≤ 5) {x y : Nat} (hx : x < w) (hy : y < h) {σ1 σ : St} (h6 : σ1.1 600 = nI w) (hP : LyP w h (w * y + x) σ1 σ) : ∃ σ', f_X1_layCell (nI x) (nI y) (nI h) σ = some σ' ∧ LyP w h (w * y + x + 1) σ1 σ' := by
  obtain ⟨hF, p1, p2, p3, p4⟩ := hP
  obtain ⟨m1, m2⟩ := cell_xy (y := y) hw hx
  have hc := cell_in hx hy
  have hc25 := (box_lt hw hh hc).1
  have e6 : σ.1 600 = nI w := (hF.1 600 (by decide)).trans h6
  have e0 : nI w * nI y + nI x = nI (w * y + x) := by rw [pk_mul, nI_add]
  have hwy : y ≠ 0 → w ≤ w * y := fun z => Nat.le_mul_of_pos_right w (by omega)
  generalize w * y + x = c at *
  have ec := nI_toInt (show c < 2 ^ 31 by omega)
  have v0 : (if nI y ≤ 0 then (-1) else nI c - nI w : Int32) = oI (nbr w h c 0) := by
    show _ = oI (if 0 < c / w then some (c - w) else none)
    rw [m2]
    by_cases z : y = 0
    · rw [if_pos (by rw [nI_le0 (by omega)]; exact z), if_neg (by omega)]; rfl
    · have := hwy z
      rw [if_neg (by rw [nI_le0 (by omega)]; exact z), if_pos (by omega), pk_sub (by have : w ≤ c := by { have h9 := Nat.div_add_mod c w; rw [m1, m2] at h9; omega }; exact this)]; rfl
  have v1 : (if nI x ≤ 0 then (-1) else nI c - 1 : Int32) = oI (nbr w h c 1) := by
    show _ = oI (if 0 < c % w then some (c - 1) else none)
    rw [m1]
    by_cases z : x = 0
    · rw [if_pos (by rw [nI_le0 (by omega)]; exact z), if_neg (by omega)]; rfl
    · rw [if_neg (by rw [nI_le0 (by omega)]; exact z), if_pos (by omega), nIs c (by have h9 := Nat.div_add_mod c w; rw [m1, m2] at h9; omega)]; rfl
  have l1 : ((nI w - 1 : Int32) ≤ nI x) = ¬ (x + 1 < w) := by
    rw [nIs w hw.1, nI_leE (by omega) (by omega)]
    exact propext ⟨fun _ => by omega, fun _ => by omega⟩
  have v3 : (if (nI w - 1 : Int32) ≤ nI x then (-1) else nI c + 1 : Int32) = oI (nbr w h c 3) := by
    show _ = oI (if c % w + 1 < w then some (c + 1) else none)
    rw [m1]
    by_cases z : x + 1 < w
    · rw [if_neg (by rw [l1]; exact not_not_intro z), if_pos z, nI_1]; rfl
    · rw [if_pos (by rw [l1]; exact z), if_neg z]; rfl
  have l2 : ((nI h - 1 : Int32) ≤ nI y) = ¬ (y + 1 < h) := by
    rw [nIs h hh.1, nI_leE (by omega) (by omega)]
    exact propext ⟨fun _ => by omega, fun _ => by omega⟩
  have v4 : (if (nI h - 1 : Int32) ≤ nI y then (-1) else nI c + nI w : Int32) = oI (nbr w h c 4) := by
    show _ = oI (if c / w + 1 < h then some (c + w) else none)
    rw [m2]
    by_cases z : y + 1 < h
    · rw [if_neg (by rw [l2]; exact not_not_intro z), if_pos z, nI_add]; rfl
    · rw [if_pos (by rw [l2]; exact z), if_neg z]; rfl
  have n0 : nI c * 5 = nI (5 * c) := by rw [show (5 : Int32) = nI 5 from rfl, pk_mul, Nat.mul_comm]
  have n1 : nI (5 * c) + 1 = nI (5 * c + 1) := nI_add _ 1
  have n2 : nI (5 * c) + 2 = nI (5 * c + 2) := nI_add _ 2
  have n3 : nI (5 * c) + 3 = nI (5 * c + 3) := nI_add _ 3
  have n4 : nI (5 * c) + 4 = nI (5 * c + 4) := nI_add _ 4
  have b0 : 5 * c < 130 := by omega
  have b1 : 5 * c + 1 < 130 := by omega
  have b2 : 5 * c + 2 < 130 := by omega
  have b3 : 5 * c + 3 < 130 := by omega
  have b4 : 5 * c + 4 < 130 := by omega
  refine ⟨sA (sA (sA (sA (sA (sF (sF σ 605 (σ.1 605 ||| (if nI x ≤ 0 then 0 else (1 : Int32) <<< (nI c &&& 31)))) 606 (σ.1 606 ||| (if (nI w - 1 : Int32) ≤ nI x then 0 else (1 : Int32) <<< (nI c &&& 31)))) 46 (5 * c) (oI (nbr w h c 0))) 46 (5 * c + 1) (oI (nbr w h c 1))) 46 (5 * c + 2) (nI c)) 46 (5 * c + 3) (oI (nbr w h c 3))) 46 (5 * c + 4) (oI (nbr w h c 4)), ?_, ?_, ?_, ?_, ?_, ?_⟩
  · unfold f_X1_layCell
    rw [show gF σ 600 = nI w from e6, e0, bndE, if_neg (by rw [lies0, ec]; show ¬ ¬ ((0 : Int) ≤ _ ∧ _ ≤ (24 : Int)); omega)]
    simp only [bS, bndE, gF, sA1, sL1, stA1, stL1, sF1, sA2, sL2, stA2, stL2, sF2, sA3, sL3, stA3, stL3, sF3, Nat.reduceEqDiff, Nat.reduceLT, reduceIte, e6, n0, n1, n2, n3, n4, v0, v1, v3, v4, wrC_46 b0, wrC_46 b1, wrC_46 b2, wrC_46 b3, wrC_46 b4]
  · exact ((((((hF.wF (by decide)).wF (by decide)).wA (by decide)).wA (by decide)).wA (by decide)).wA (by decide)).wA (by decide)
  · intro c' hc' i hi
    show upd (upd (upd (upd (upd (σ.2.1 46) (5 * c) (oI (nbr w h c 0))) (5 * c + 1) (oI (nbr w h c 1))) (5 * c + 2) (nI c)) (5 * c + 3) (oI (nbr w h c 3))) (5 * c + 4) (oI (nbr w h c 4)) (5 * c' + i) = _
    by_cases z : c' = c
    · subst z
      match i, hi with
      | 0, _ => rw [upd_ne _ _ (by omega), upd_ne _ _ (by omega), upd_ne _ _ (by omega), upd_ne _ _ (by omega)]; exact upd_at _ _ _
      | 1, _ => rw [upd_ne _ _ (by omega), upd_ne _ _ (by omega), upd_ne _ _ (by omega)]; exact upd_at _ _ _
      | 2, _ => rw [upd_ne _ _ (by omega), upd_ne _ _ (by omega)]; exact upd_at _ _ _
      | 3, _ => rw [upd_ne _ _ (by omega)]; exact upd_at _ _ _
      | 4, _ => exact upd_at _ _ _
    · rw [upd_ne _ _ (by omega), upd_ne _ _ (by omega), upd_ne _ _ (by omega), upd_ne _ _ (by omega), upd_ne _ _ (by omega)]
      exact p1 c' (by omega) i hi
  · intro i hi
    show upd (upd (upd (upd (upd (σ.2.1 46) (5 * c) (oI (nbr w h c 0))) (5 * c + 1) (oI (nbr w h c 1))) (5 * c + 2) (nI c)) (5 * c + 3) (oI (nbr w h c 3))) (5 * c + 4) (oI (nbr w h c 4)) (125 + i) = _
    rw [upd_ne _ _ (by omega), upd_ne _ _ (by omega), upd_ne _ _ (by omega), upd_ne _ _ (by omega), upd_ne _ _ (by omega)]
    exact p2 i hi
  · show ∀ i, i < 32 → bt (σ.1 605 ||| (if nI x ≤ 0 then 0 else (1 : Int32) <<< (nI c &&& 31))) i = _
    refine bt_or_if (p := fun i => 0 < i % w) hc25 p3 ?_
    rw [nI_le0 (by omega), m1]
    omega
  · show ∀ i, i < 32 → bt (σ.1 606 ||| (if (nI w - 1 : Int32) ≤ nI x then 0 else (1 : Int32) <<< (nI c &&& 31))) i = _
    refine bt_or_if (p := fun i => i % w + 1 < w) hc25 p4 ?_
    rw [l1, m1]
theorem lay_x (hw : 1 ≤ w ∧ w ≤ 5) (hh : 1 ≤ h ∧ h ≤ 5) {y : Nat} (hy : y < h) {σ1 : St} (h6 : σ1.1 600 = nI w) {k92 : Int32 → St → Option St} : ∀ (k x m : Nat) (σ : St), x + k = w → k < m → LyP w h (w * y + x) σ1 σ → ∃ σ', f_X1_lay_101 (nI w) (nI h) (nI y) k92 m (nI x) σ = k92 (nI (y + 1)) σ' ∧ LyP w h (w * (y + 1)) σ1 σ' := by
  intro k
  induction k with
  | zero =>
    intro x m σ e1 e2 hP
    obtain ⟨m, rfl⟩ : ∃ q, m = q + 1 := ⟨m - 1, by omega⟩
    have : x = w := by omega
    subst this
    refine ⟨σ, ?_, by rw [Nat.mul_succ]; exact hP⟩
    unfold f_X1_lay_101 f_X1_lay_122
    rw [if_pos (nI_le (Nat.le_refl _) (by omega)), bndE, nI_1]
  | succ k ih =>
    intro x m σ e1 e2 hP
    obtain ⟨m, rfl⟩ : ∃ q, m = q + 1 := ⟨m - 1, by omega⟩
    obtain ⟨σ', z1, z2⟩ := layCell hw hh (show x < w by omega) hy h6 hP
    obtain ⟨σ2, y1, y2⟩ := ih (x + 1) m σ' (by omega) (by omega) z2
    refine ⟨σ2, ?_, y2⟩
    unfold f_X1_lay_101
    rw [if_neg (nI_ge (by omega) (by omega)), z1, bS, bndE, nI_1]
    exact y1
theorem lay_y (hw : 1 ≤ w ∧ w ≤ 5) (hh : 1 ≤ h ∧ h ≤ 5) {σ1 : St} (h6 : σ1.1 600 = nI w) : ∀ (k y m : Nat) (σ : St), y + k = h → k < m → LyP w h (w * y) σ1 σ → ∃ σ', f_X1_lay_92 (nI w) (nI h) m (nI y) σ = some σ' ∧ LyP w h (w * h) σ1 σ' := by
  intro k
  induction k with
  | zero =>
    intro y m σ e1 e2 hP
    obtain ⟨m, rfl⟩ : ∃ q, m = q + 1 := ⟨m - 1, by omega⟩
    have : y = h := by omega
    subst this
    refine ⟨σ, ?_, hP⟩
    unfold f_X1_lay_92
    rw [if_pos (nI_le (Nat.le_refl _) (by omega))]
  | succ k ih =>
    intro y m σ e1 e2 hP
    obtain ⟨m, rfl⟩ : ∃ q, m = q + 1 := ⟨m - 1, by omega⟩
    obtain ⟨σ', z1, z2⟩ := lay_x hw hh (show y < h by omega) h6 (k92 := f_X1_lay_92 (nI w) (nI h) m) w 0 FU σ (by omega) (by unfold FU; omega) hP
    obtain ⟨σ2, y1, y2⟩ := ih (y + 1) m σ' (by omega) (by omega) z2
    refine ⟨σ2, ?_, y2⟩
    unfold f_X1_lay_92
    rw [if_neg (nI_ge (by omega) (by omega))]
    exact z1.trans y1
end LY
theorem minuteC {w h ff lf m0 : Nat} {σ : St} (hw : 1 ≤ w ∧ w ≤ 5) (hh : 1 ≤ h ∧ h ≤ 5) (r : Rg w h ff lf) (g : GS w h ff lf σ) (hW : ∀ f x, ff ≤ f → f ≤ lf → x < w * h → Bt5 (w * h) (σ.2.1 47 (25 * f + x)) (gW w h m0 f x)) : ∃ s1 s2 s3, f_X1_moveTrawler σ = some s1 ∧ f_X1_moveFrigate s1 = some s2 ∧ f_X1_moveWarder s2 = some s3 ∧ GS w h ff lf s3 ∧ (∀ f x, ff ≤ f → f ≤ lf → x < w * h → Bt5 (w * h) (s3.2.1 47 (25 * f + x)) (gW w h (m0 + 1) f x)) ∧ (∀ f x, ff ≤ f → f ≤ lf → x < w * h → Bt5 (w * h) (s3.2.1 48 (25 * f + x)) (gFr w h (gW w h m0) f x)) ∧ Fr [] [47, 48, 49] [] σ s3 := by
  obtain ⟨A, a1, a2⟩ := trawC hw hh r g hW
  obtain ⟨B, b1, b2⟩ := frigC (σ := stA σ 49 A) (W := gW w h m0) hw hh r (g.fr (Fr.rf.wSA (k := 49) (As := [49]) (by decide)) (by decide)) (by rw [stA_at]; exact a2)
  have hB : ∀ f x, ff ≤ f → f ≤ lf → x < w * h → Bt5 (w * h) ((stA (stA σ 49 A) 48 B).2.1 48 (25 * f + x)) (gFr w h (gW w h m0) f x) := by rw [stA_at]; exact b2
  obtain ⟨C, c1, c2⟩ := wardC (σ := stA (stA σ 49 A) 48 B) (m0 := m0) hw hh r (g.fr ((Fr.rf.wSA (k := 49) (As := [49, 48]) (by decide)).wSA (k := 48) (by decide)) (by decide)) hB
  refine ⟨_, _, _, a1, b1, c1, g.fr (((Fr.rf.wSA (k := 49) (As := [49, 48, 47]) (by decide)).wSA (k := 48) (by decide)).wSA (k := 47) (by decide)) (by decide), by rw [stA_at]; exact c2, hB, ((Fr.rf.wSA (by decide)).wSA (by decide)).wSA (by decide)⟩
