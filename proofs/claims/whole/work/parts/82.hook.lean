/-! the reference's levels, and the whole game -/
section LV
variable {w h : Nat} {τ : St}
def ix (x f t : Nat) : Nat := 25 * (26 * x + f) + t
set_option maxHeartbeats 200000 in
theorem lev_t (hw : 1 ≤ w ∧ w ≤ 5) (hh : 1 ≤ h ∧ h ≤ 5) (h62 : τ.1 62 = nI w) (h63 : τ.1 63 = nI h) {W : Nat → Nat → Nat → Bool} (hC : Ct (w * h) W τ) (hS : ∀ f x, W f x x = true) {x f : Nat} (hx : x < w * h) (hf : FV (w * h) f x) {k19 k12 : Int32 → St → Option St} :
    ∀ (k t m : Nat) (A : Nat → Int32), t + k = w * h → k < m → ∃ A', f_X11_levels_35 (nI (w * h)) (nI x) (frI f) k19 k12 m (nI t) (stA τ 40 A) = f_X11_levels_90 (nI (w * h)) (nI x) (frI f) (stA τ 40 A') k19 k12 ∧ (∀ i, (i < ix x f t ∨ ix x f (w * h) ≤ i) → A' i = A i) ∧ ∀ t', t ≤ t' → t' < w * h → A' (ix x f t') = b2i (W f x t' || gX w h W f x t') := by
  have hn : w * h ≤ 25 := Nat.mul_le_mul hw.2 hh.2
  have hf25 : f ≤ 25 := by rcases hf.1 with z | z <;> omega
  intro k
  induction k with
  | zero =>
    intro t m A e1 e2
    obtain ⟨m, rfl⟩ : ∃ q, m = q + 1 := ⟨m - 1, by omega⟩
    refine ⟨A, ?_, fun _ _ => rfl, fun t' c1 c2 => absurd c2 (by omega)⟩
    unfold f_X11_levels_35
    rw [if_pos (nI_le (by omega) (by omega))]
  | succ k ih =>
    intro t m A e1 e2
    obtain ⟨m, rfl⟩ : ∃ q, m = q + 1 := ⟨m - 1, by omega⟩
    have ht : t < w * h := by omega
    have hb : 25 * (26 * x + f) + t < 16250 := by omega
    have hC' : Ct (w * h) W (stA τ 40 A) := hC
    obtain ⟨r, r1, r2⟩ := firstR (τ := stA τ 40 A) hw hh h62 h63 hC' hS ht hx hf.1
    have rneg := LM_gX r2
    have rdv : rd tM (stA τ 40 A) 39 (nI (25 * (26 * x + f) + t)) = some (b2i (W f x t)) := by rw [rdM_39 hb]; exact congrArg some (hC x f t hx hf ht)
    have step : ∀ v : Int32, v = b2i (W f x t || gX w h W f x t) → ∃ A', f_X11_levels_83 (nI (w * h)) (nI x) (frI f) (nI t) (nI (25 * (26 * x + f) + t)) v (stA τ 40 A) (f_X11_levels_35 (nI (w * h)) (nI x) (frI f) k19 k12 m) k19 k12 = f_X11_levels_90 (nI (w * h)) (nI x) (frI f) (stA τ 40 A') k19 k12 ∧ (∀ i, (i < ix x f t ∨ ix x f (w * h) ≤ i) → A' i = A i) ∧ ∀ t', t ≤ t' → t' < w * h → A' (ix x f t') = b2i (W f x t' || gX w h W f x t') := by
      intro v hv
      have hnar : vp_nar .boolean v = v := by rw [hv]; cases (W f x t || gX w h W f x t) <;> rfl
      obtain ⟨A', z1, z2, z3⟩ := ih (t + 1) m (upd A (25 * (26 * x + f) + t) v) (by omega) (by omega)
      refine ⟨A', ?_, fun i hi => by rw [z2 i (by unfold ix at *; omega)]; exact upd_ne _ _ (by unfold ix at hi; omega), fun t' c1 c2 => ?_⟩
      · unfold f_X11_levels_83
        rw [hnar, wrM_40 hb, bS, bndE, nI_1, sA_st, stA_at, stA_2]
        exact z1
      · by_cases d : t' = t
        · subst d
          rw [z2 _ (by unfold ix; omega)]
          show upd A (25 * (26 * x + f) + t') v (25 * (26 * x + f) + t') = _
          rw [upd_at, hv]
        · exact z3 t' (by omega) c2
    unfold f_X11_levels_35 f_X11_levels_78
    rw [if_neg (nI_ge ht (by omega)), stateM hf25, rdv, bS, r1, bS]
    cases hWt : W f x t with
    | true =>
      rw [if_neg (by decide)]
      exact step 1 (by rw [hWt, Bool.true_or]; rfl)
    | false =>
      rw [if_pos (by decide)]
      cases hX : gX w h W f x t with
      | true =>
        rw [if_neg (by rw [rneg, hX]; decide)]
        exact step 1 (by rw [hWt, hX]; rfl)
      | false =>
        rw [if_pos (by rw [rneg, hX])]
        exact step 0 (by rw [hWt, hX]; rfl)
def fo (y : Nat) : Nat := if y = 0 then 25 else y - 1
set_option maxHeartbeats 200000 in
theorem fo_frI {y : Nat} (hy : y ≤ 25) : frI (fo y) = nI y - 1 := by
  unfold fo
  by_cases c : y = 0
  · rw [if_pos c, c]; rfl
  · rw [if_neg c, frI_lt (by omega), nIs y (by omega)]
set_option maxHeartbeats 200000 in
theorem lev_f (hw : 1 ≤ w ∧ w ≤ 5) (hh : 1 ≤ h ∧ h ≤ 5) (h62 : τ.1 62 = nI w) (h63 : τ.1 63 = nI h) {W : Nat → Nat → Nat → Bool} (hC : Ct (w * h) W τ) (hS : ∀ f x, W f x x = true) {x : Nat} (hx : x < w * h) {k12 : Int32 → St → Option St} :
    ∀ (k y m : Nat) (A : Nat → Int32), y + k = w * h + 1 → k < m → (∀ y', y' < y → fo y' ≠ x → ∀ t, t < w * h → A (ix x (fo y') t) = b2i (W (fo y') x t || gX w h W (fo y') x t)) → ∃ A', f_X11_levels_19 (nI (w * h)) (nI x) k12 m (nI y - 1) (stA τ 40 A) = k12 (nI (x + 1)) (stA τ 40 A') ∧ (∀ i, (i < 650 * x ∨ 650 * (x + 1) ≤ i) → A' i = A i) ∧ ∀ y', y' < w * h + 1 → fo y' ≠ x → ∀ t, t < w * h → A' (ix x (fo y') t) = b2i (W (fo y') x t || gX w h W (fo y') x t) := by
  have hn : w * h ≤ 25 := Nat.mul_le_mul hw.2 hh.2
  intro k
  induction k with
  | zero =>
    intro y m A e1 e2 hA
    obtain ⟨m, rfl⟩ : ∃ q, m = q + 1 := ⟨m - 1, by omega⟩
    have : y = w * h + 1 := by omega
    subst this
    refine ⟨A, ?_, fun _ _ => rfl, hA⟩
    unfold f_X11_levels_19 f_X11_levels_96
    rw [nI_pred, if_pos (nI_le (Nat.le_refl _) (by omega)), bndE, nI_1]
  | succ k ih =>
    intro y m A e1 e2 hA
    obtain ⟨m, rfl⟩ : ∃ q, m = q + 1 := ⟨m - 1, by omega⟩
    have hy : y ≤ w * h := by omega
    have nle : ¬ nI (w * h) ≤ nI y - 1 := by
      by_cases c : y = 0
      · subst c
        rw [leI, nI_toInt (by omega)]
        show ¬ _ ≤ (-1 : Int)
        omega
      · rw [nIs y (by omega)]; exact nI_ge (by omega) (by omega)
    have nxt : (nI y - 1 : Int32) + 1 = nI (y + 1) - 1 := by rw [nI_pred, Int32.sub_add_cancel]
    have feq : ((nI y - 1 : Int32) = nI x) = (fo y = x) := by
      unfold fo
      by_cases c : y = 0
      · subst c
        rw [if_pos rfl]
        refine propext ⟨fun z => ?_, fun z => absurd z (by omega)⟩
        have := congrArg Int32.toInt z
        rw [nI_toInt (by omega)] at this
        have this : (-1 : Int) = x := this
        omega
      · rw [if_neg c, nIs y (by omega), nI_eqE (by omega) (by omega)]
    unfold f_X11_levels_19
    rw [if_neg nle]
    by_cases c : fo y = x
    · rw [if_pos (by rw [feq]; exact c)]
      unfold f_X11_levels_90
      rw [bndE, nxt]
      refine ih (y + 1) m A (by omega) (by omega) (fun y' hy' hne => ?_)
      by_cases d : y' = y
      · subst d; exact absurd c hne
      · exact hA y' (by omega) hne
    · rw [if_neg (by rw [feq]; exact c)]
      have hfv : FV (w * h) (fo y) x := ⟨by unfold fo; by_cases z : y = 0 <;> simp [z]; omega, c⟩
      have hfo : fo y ≤ 25 := by unfold fo; split <;> omega
      obtain ⟨A1, z1, z2, z3⟩ := lev_t hw hh h62 h63 hC hS hx hfv (k19 := f_X11_levels_19 (nI (w * h)) (nI x) k12 m) (k12 := k12) (w * h) 0 FU A (by omega) (by unfold FU; omega)
      rw [fo_frI (by omega)] at z1
      have keep : ∀ y', y' < y → ∀ t, t < w * h → A1 (ix x (fo y') t) = A (ix x (fo y') t) := by
        intro y' hy' t ht
        have h1 : fo y' ≤ 25 := by unfold fo; split <;> omega
        have h2 : fo y' ≠ fo y := by unfold fo; split <;> split <;> omega
        refine z2 _ ?_
        unfold ix
        omega
      obtain ⟨A2, y1, y2, y3⟩ := ih (y + 1) m A1 (by omega) (by omega) (fun y' hy' hne t ht => by
        by_cases d : y' = y
        · subst d; exact z3 t (by omega) ht
        · rw [keep y' (by omega) t ht]; exact hA y' (by omega) hne t ht)
      refine ⟨A2, ?_, fun i hi => ?_, y3⟩
      · rw [show f_X11_levels_35 (nI (w * h)) (nI x) (nI y - 1) (f_X11_levels_19 (nI (w * h)) (nI x) k12 m) k12 FU 0 (stA τ 40 A) = _ from z1]
        unfold f_X11_levels_90
        rw [bndE, nxt]
        exact y1
      · rw [y2 i hi]
        refine z2 i ?_
        unfold ix
        omega
set_option maxHeartbeats 200000 in
theorem fo_sur {n f x : Nat} (hf : FV n f x) : ∃ y, y < n + 1 ∧ fo y = f := by
  rcases hf.1 with z | z
  · exact ⟨f + 1, by omega, by unfold fo; rw [if_neg (by omega)]; omega⟩
  · exact ⟨0, by omega, by unfold fo; rw [if_pos rfl, z]⟩
set_option maxHeartbeats 200000 in
theorem lev_x (hw : 1 ≤ w ∧ w ≤ 5) (hh : 1 ≤ h ∧ h ≤ 5) (h62 : τ.1 62 = nI w) (h63 : τ.1 63 = nI h) {W : Nat → Nat → Nat → Bool} (hC : Ct (w * h) W τ) (hS : ∀ f x, W f x x = true) :
    ∀ (k x m : Nat) (A : Nat → Int32), x + k = w * h → k < m → (∀ x' f t, x' < x → FV (w * h) f x' → t < w * h → A (ix x' f t) = b2i (W f x' t || gX w h W f x' t)) → ∃ A', f_X11_levels_12 (nI (w * h)) m (nI x) (stA τ 40 A) = f_X11_levels_102 (stA τ 40 A') ∧ ∀ x' f t, x' < w * h → FV (w * h) f x' → t < w * h → A' (ix x' f t) = b2i (W f x' t || gX w h W f x' t) := by
  have hn : w * h ≤ 25 := Nat.mul_le_mul hw.2 hh.2
  intro k
  induction k with
  | zero =>
    intro x m A e1 e2 hA
    obtain ⟨m, rfl⟩ : ∃ q, m = q + 1 := ⟨m - 1, by omega⟩
    have : x = w * h := by omega
    subst this
    refine ⟨A, ?_, hA⟩
    unfold f_X11_levels_12
    rw [if_pos (nI_le (Nat.le_refl _) (by omega))]
  | succ k ih =>
    intro x m A e1 e2 hA
    obtain ⟨m, rfl⟩ : ∃ q, m = q + 1 := ⟨m - 1, by omega⟩
    obtain ⟨A1, z1, z2, z3⟩ := lev_f hw hh h62 h63 hC hS (show x < w * h by omega) (k12 := f_X11_levels_12 (nI (w * h)) m) (w * h + 1) 0 FU A (by omega) (by unfold FU; omega) (fun y' z => absurd z (by omega))
    obtain ⟨A2, y1, y2⟩ := ih (x + 1) m A1 (by omega) (by omega) (fun x' f t hx' hf ht => by
      by_cases d : x' = x
      · subst d
        obtain ⟨y, hy, e⟩ := fo_sur hf
        have := z3 y hy (by rw [e]; exact hf.2) t ht
        rw [e] at this
        exact this
      · have hf25 : f ≤ 25 := by rcases hf.1 with z | z <;> omega
        rw [z2 _ (by unfold ix; omega)]
        exact hA x' f t (by omega) hf ht)
    refine ⟨A2, ?_, y2⟩
    unfold f_X11_levels_12
    rw [if_neg (nI_ge (by omega) (by omega)), show f_X11_levels_19 (nI (w * h)) (nI x) (f_X11_levels_12 (nI (w * h)) m) FU (-1) (stA τ 40 A) = _ from z1]
    exact y1
set_option maxHeartbeats 200000 in
theorem lev_copy {B : Nat → Int32} : ∀ (k i m : Nat) (A : Nat → Int32), i + k = 16250 → k < m → (∀ j, j < i → A j = vp_nar .boolean (B j)) → ∃ A', f_X11_levels_104 m (nI i) (stA (stA τ 40 B) 39 A) = some (stA (stA τ 40 B) 39 A') ∧ ∀ j, j < 16250 → A' j = vp_nar .boolean (B j) := by
  intro k
  induction k with
  | zero =>
    intro i m A e1 e2 hA
    obtain ⟨m, rfl⟩ : ∃ q, m = q + 1 := ⟨m - 1, by omega⟩
    have : i = 16250 := by omega
    subst this
    refine ⟨A, ?_, hA⟩
    unfold f_X11_levels_104
    rw [if_pos (show (16250 : Int32) ≤ nI 16250 from nI_le (a := 16250) (Nat.le_refl _) (by decide))]
  | succ k ih =>
    intro i m A e1 e2 hA
    obtain ⟨m, rfl⟩ : ∃ q, m = q + 1 := ⟨m - 1, by omega⟩
    have rdB : rd tM (stA (stA τ 40 B) 39 A) 40 (nI i) = some (B i) := by rw [rdM_40 (by omega)]; show some ((stA τ 40 B).2.1 40 i) = _; rw [stA_at]
    unfold f_X11_levels_104
    rw [if_neg (show ¬ (16250 : Int32) ≤ nI i from nI_ge (b := 16250) (by omega) (by decide)), rdB, bS, wrM_39 (by omega), bS, bndE, nI_1, sA_st, stA_at, stA_2]
    refine ih (i + 1) m _ (by omega) (by omega) (fun j hj => ?_)
    by_cases c : j = i
    · subst c; exact upd_at _ _ _
    · rw [upd_ne _ _ c]; exact hA j (by omega)
set_option maxHeartbeats 200000 in
theorem levelsR (hw : 1 ≤ w ∧ w ≤ 5) (hh : 1 ≤ h ∧ h ≤ 5) (h62 : τ.1 62 = nI w) (h63 : τ.1 63 = nI h) {m0 : Nat} (hC : Ct (w * h) (gW w h m0) τ) : ∃ τ', f_X11_levels τ = some τ' ∧ Ct (w * h) (gW w h (m0 + 1)) τ' ∧ Fr [] [39, 40] [] τ τ' := by
  have hn : w * h ≤ 25 := Nat.mul_le_mul hw.2 hh.2
  obtain ⟨B, z1, z2⟩ := lev_x hw hh h62 h63 hC (fun f x => gW_self w h m0 f x) (w * h) 0 FU (τ.2.1 40) (by omega) (by unfold FU; omega) (fun x' f t z => absurd z (by omega))
  rw [stA_same] at z1
  obtain ⟨A, y1, y2⟩ := lev_copy (τ := τ) (B := B) 16250 0 FU ((stA τ 40 B).2.1 39) (by omega) (by unfold FU; omega) (fun j z => absurd z (by omega))
  rw [stA_same] at y1
  refine ⟨_, ?_, fun x f t hx hf ht => ?_, (Fr.rf.wSA (k := 40) (f := B) (by decide)).wSA (k := 39) (f := A) (by decide)⟩
  · unfold f_X11_levels
    rw [show gF τ 62 = _ from h62, show gF τ 63 = _ from h63, pk_mul, bndE, show f_X11_levels_12 (nI (w * h)) FU 0 τ = _ from z1]
    exact y1
  · have hf25 : f ≤ 25 := by rcases hf.1 with z | z <;> omega
    have := z2 x f t hx hf ht
    rw [gW_step] at this
    rw [stA_at, y2 _ (by omega), show B (25 * (26 * x + f) + t) = _ from this]
    cases gW w h (m0 + 1) f x t <;> rfl
set_option maxHeartbeats 200000 in
theorem initR {t x : Int32} {fI mI : Int32} : ∀ (k i m : Nat) (σ1 : St), i + k = 16250 → k < m → (∀ j, j < i → σ1.2.1 39 j = b2i (decide (j / 25 / 26 = j % 25))) → ∃ τ', f_X11_hook_120 t x fI mI m (nI i) σ1 = f_X11_hook_170 t x fI mI τ' ∧ (∀ j, j < 16250 → τ'.2.1 39 j = b2i (decide (j / 25 / 26 = j % 25))) ∧ Fr [] [39, 40] [] σ1 τ' := by
  intro k
  induction k with
  | zero =>
    intro i m σ1 e1 e2 hA
    obtain ⟨m, rfl⟩ : ∃ q, m = q + 1 := ⟨m - 1, by omega⟩
    have : i = 16250 := by omega
    subst this
    refine ⟨σ1, ?_, hA, Fr.rf⟩
    unfold f_X11_hook_120
    rw [if_pos (show (16250 : Int32) ≤ nI 16250 from nI_le (a := 16250) (Nat.le_refl _) (by decide))]
  | succ k ih =>
    intro i m σ1 e1 e2 hA
    obtain ⟨m, rfl⟩ : ∃ q, m = q + 1 := ⟨m - 1, by omega⟩
    have d1 : nI i / 25 = nI (i / 25) := pk_div (d := 25) (by omega) (by decide) (by decide)
    have d2 : nI (i / 25) / 26 = nI (i / 25 / 26) := pk_div (d := 26) (by omega) (by decide) (by decide)
    have d3 : nI i - nI (i / 25) * 25 = nI (i % 25) := by rw [← d1]; exact pk_rem (d := 25) (by omega) (by decide) (by decide)
    have dv : vp_nar .boolean (if nI (i / 25 / 26) = nI (i % 25) then 1 else 0) = b2i (decide (i / 25 / 26 = i % 25)) := by
      by_cases c : i / 25 / 26 = i % 25
      · rw [if_pos (by rw [c]), decide_eq_true c]; rfl
      · rw [if_neg (by rw [nI_eqE (by omega) (by omega)]; exact c), decide_eq_false c]; rfl
    obtain ⟨τ', z1, z2, z3⟩ := ih (i + 1) m (sA (sA σ1 39 i (b2i (decide (i / 25 / 26 = i % 25)))) 40 i (vp_nar .boolean 0)) (by omega) (by omega) (fun j hj => by
      show upd (σ1.2.1 39) i _ j = _
      by_cases c : j = i
      · subst c; exact upd_at _ _ _
      · rw [upd_ne _ _ c]; exact hA j (by omega))
    refine ⟨τ', ?_, z2, ((Fr.rf.wA (by decide)).wA (by decide)).tr z3⟩
    unfold f_X11_hook_120
    rw [if_neg (show ¬ (16250 : Int32) ≤ nI i from nI_ge (b := 16250) (by omega) (by decide)), d1, d2, d3, bndE, dv, wrM_39 (by omega), bS, wrM_40 (by omega), bS, bndE, nI_1]
    exact z1
end LV
def M_hok (σ τ : St) : Prop := σ.1 611 = τ.1 61
set_option maxHeartbeats 200000 in
theorem game_loop {w h ff lf t x f N : Nat} (hw : 1 ≤ w ∧ w ≤ 5) (hh : 1 ≤ h ∧ h ≤ 5) (r : Rg w h ff lf) (c1 : ff ≤ f) (c2 : f ≤ lf) (hx : x < w * h) (ht : t < w * h) (htx : t ≠ x) (hfx : f ≠ x) (hN : N ≤ 8) :
    ∀ (k m n n' : Nat) (σ τ : St), m + k = N + 1 → 1 ≤ m → k < n → k < n' → GS w h ff lf σ → (∀ f x, ff ≤ f → f ≤ lf → x < w * h → Bt5 (w * h) (σ.2.1 47 (25 * f + x)) (gW w h (m - 1) f x)) → τ.1 62 = nI w → τ.1 63 = nI h → Ct (w * h) (gW w h (m - 1)) τ → M_hok σ τ → ∃ (q : Int32) (σ' τ' : St), f_X1_play_27 (nI t) (nI x) (nI N) (nI f) n (nI m) σ = some (q, σ') ∧ f_X11_hook_173 (nI t) (nI x) (frI f) (nI N) n' (nI m) τ = some (q, τ') ∧ M_hok σ' τ' ∧ Fr [611] [47, 48, 49] [] σ σ' ∧ Fr [61] [39, 40] [] τ τ' := by
  have hn : w * h ≤ 25 := Nat.mul_le_mul hw.2 hh.2
  have hfr := r.in hw hh c1 c2
  have hf25 : f ≤ 25 := by rcases hfr with z | z <;> omega
  intro k
  induction k with
  | zero =>
    intro m n n' σ τ e1 e2 e3 e4 hG hW h62 h63 hC hM
    obtain ⟨n, rfl⟩ : ∃ q, n = q + 1 := ⟨n - 1, by omega⟩
    obtain ⟨n', rfl⟩ : ∃ q, n' = q + 1 := ⟨n' - 1, by omega⟩
    refine ⟨-2, σ, τ, ?_, ?_, hM, Fr.rf, Fr.rf⟩
    · unfold f_X1_play_27
      rw [if_pos (nI_lt (by omega) (by omega))]
    · unfold f_X11_hook_173
      rw [if_pos (nI_lt (by omega) (by omega))]
  | succ k ih =>
    intro m n n' σ τ e1 e2 e3 e4 hG hW h62 h63 hC hM
    obtain ⟨n, rfl⟩ : ∃ q, n = q + 1 := ⟨n - 1, by omega⟩
    obtain ⟨n', rfl⟩ : ∃ q, n' = q + 1 := ⟨n' - 1, by omega⟩
    obtain ⟨s1, s2, s3, p1, p2, p3, p4, p5, p6, p7⟩ := minuteC hw hh r hG hW
    obtain ⟨rr, q1, q2⟩ := firstR hw hh h62 h63 hC (fun f x => gW_self w h (m - 1) f x) ht hx hfr
    obtain ⟨lm, l1, l2⟩ := leastC hw hh r p4 p6 c1 c2 hx ht
    have hrl : lm = rr := l2.uniq q2
    have hb : bt (s3.2.1 47 (25 * f + x)) t = gX w h (gW w h (m - 1)) f x t := by
      rw [p5 f x c1 c2 hx t (by omega), decide_eq_true ht, Bool.true_and]
      show (decide (t = x) || gX w h (gW w h (m - 1)) f x t) = _
      rw [decide_eq_false htx, Bool.false_or]
    have hs : f_X1_has 47 (nI x) (nI f) (nI t) s3 = some (if gX w h (gW w h (m - 1)) f x t = true then 1 else 0) := by
      rw [hasC (a := 47) rfl hf25 (by omega) (by omega), hb]
    have rneg := LM_gX q2
    unfold f_X1_play_27 f_X11_hook_173
    rw [if_neg (nI_nlt (by omega) (by omega)), if_neg (nI_nlt (by omega) (by omega)), p1, bS, p2, bS, p3, bS, hs, bS, q1, bS]
    cases hX : gX w h (gW w h (m - 1)) f x t with
    | true =>
      rw [if_pos rfl, if_neg (by decide), if_neg (by rw [rneg, hX]; decide)]
      refine ⟨nI m, sF s3 611 lm, sF τ 61 rr, ?_, ?_, hrl, (p7.up (by decide)).wF (by decide), Fr.rf.wF (by decide)⟩
      · unfold f_X1_play_60
        rw [l1, bS, bndE]
      · unfold f_X11_hook_196
        rw [bndE]
    | false =>
      rw [if_pos (show (if false = true then (1 : Int32) else 0) = 0 from rfl), if_pos (by rw [rneg, hX])]
      obtain ⟨τ2, u1, u2, u3⟩ := levelsR hw hh h62 h63 hC
      rw [u1, bS, bndE, bndE, nI_1]
      rw [show m - 1 + 1 = m + 1 - 1 by omega] at p5 u2
      have k62 : ∀ j, τ2.1 j = τ.1 j := fun j => u3.1 j (by simp)
      obtain ⟨q, σ', τ', z1, z2, z3, z4, z5⟩ := ih (m + 1) n n' s3 τ2 (by omega) (by omega) (by omega) (by omega) p4 p5 ((k62 62).trans h62) ((k62 63).trans h63) u2 (by
        unfold M_hok
        rw [p7.1 611 (by simp), k62 61]
        exact hM)
      exact ⟨q, σ', τ', z1, z2, z3, (p7.up (by decide)).tr z4, (u3.up (by decide)).tr z5⟩
