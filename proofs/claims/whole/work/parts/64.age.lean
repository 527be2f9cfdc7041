/-! years over a shoal -/
def cN (ln : Nat → Nat) (me e : Nat) (g : Nat → Nat) (a : Nat) : Nat := if ln a < me then 0 else g a * e / 1000
def vN (ln : Nat → Nat) (me e l : Nat) (g : Nat → Nat) (a : Nat) : Nat := (g a - cN ln me e g a) * (1000 - l) / 1000
def yN (ln : Nat → Nat) (me e l r : Nat) (g : Nat → Nat) (i : Nat) : Nat := if i = 0 then r else if i = 7 then vN ln me e l g 6 + vN ln me e l g 7 else vN ln me e l g (i - 1)
def wN (ln wo : Nat → Nat) (me e : Nat) (g : Nat → Nat) : Nat → Nat
  | 0 => 0
  | k + 1 => wN ln wo me e g k + cN ln me e g (7 - k) * wo (7 - k)
theorem cN_le {ln : Nat → Nat} {me e : Nat} {g : Nat → Nat} (he : e ≤ 1000) (a : Nat) : cN ln me e g a ≤ g a := by
  unfold cN
  split
  · exact Nat.zero_le _
  · exact Nat.div_le_of_le_mul (by rw [Nat.mul_comm]; exact Nat.mul_le_mul_right _ he)
theorem vN_le {ln : Nat → Nat} {me e l : Nat} {g : Nat → Nat} (a : Nat) : vN ln me e l g a ≤ g a := Nat.le_trans (th_le _ l) (Nat.sub_le _ _)
theorem wN_le {ln wo : Nat → Nat} {me e : Nat} {g : Nat → Nat} (he : e ≤ 1000) (hg : ∀ i, i < 8 → g i ≤ 40000000) (hw : ∀ i, i < 8 → wo i ≤ 999) (k : Nat) : k ≤ 8 → wN ln wo me e g k ≤ k * 39960000000 := by
  induction k with
  | zero => intro _; exact Nat.zero_le _
  | succ k ih =>
    intro hk
    have h1 := ih (by omega)
    have h2 : cN ln me e g (7 - k) * wo (7 - k) ≤ 40000000 * 999 := Nat.mul_le_mul (Nat.le_trans (cN_le he _) (hg _ (by omega))) (hw _ (by omega))
    show wN ln wo me e g k + cN ln me e g (7 - k) * wo (7 - k) ≤ _
    omega
theorem stL_comm {σ : St} {a b : Nat} (h : a ≠ b) (f g : Nat → Int64) : stL (stL σ a f) b g = stL (stL σ b g) a f := by
  unfold stL
  simp only [Prod.mk.injEq, true_and]
  funext c
  by_cases h1 : c = a
  · subst h1
    rw [if_neg h, if_pos rfl, if_pos rfl]
  · rw [if_neg h1, if_neg h1]
theorem sLs (σ : St) (a i : Nat) (G : Nat → Int64) (v : Int64) : sL (stL σ a G) a i v = stL σ a (vp_updL G i v) := by rw [sL_st, stL_at, stL_2]
theorem m1s (a : Nat) : nI a + (-1) = nI a - 1 := by
  apply Int32.toInt_inj.mp
  rw [Int32.toInt_add, Int32.toInt_sub]
  show Int.bmod _ _ = _
  congr 1
theorem lNsub {a b : Nat} (h : b ≤ a) : lN a - lN b = lN (a - b) := lN_sub h
section YR
variable {ln wo : Nat → Nat} {me e l r0 : Nat} {g : Nat → Nat}
theorem e_cN (hg : ∀ i, i < 8 → g i ≤ 40000000) (he : e ≤ 1000) {a : Nat} (ha : a < 8) : lN (g a) * (nI e).toInt64 / 1000 = lN (g a * e / 1000) := by
  have := hg a ha
  have h2 : g a * e ≤ 40000000 * 1000 := Nat.mul_le_mul this he
  rw [nI_l (by omega), lN_mul]
  exact pk_lDiv (b := 1000) (by omega) (by decide) (by decide)
theorem e_vN (hg : ∀ i, i < 8 → g i ≤ 40000000) (he : e ≤ 1000) (hl : l ≤ 1000) {a : Nat} (ha : a < 8) : (lN (g a) - lN (cN ln me e g a)) * ((1000 - nI l : Int32).toInt64) / 1000 = lN (vN ln me e l g a) := by
  have := hg a ha
  rw [lN_sub (cN_le he a), th_mul (by omega) hl]
  rfl
theorem e_wN (hw : ∀ i, i < 8 → wo i ≤ 999) {r : Nat} (hr : r < 8) : lN (wN ln wo me e g (8 - (r + 1))) + lN (cN ln me e g r) * (nI (wo r)).toInt64 = lN (wN ln wo me e g (8 - r)) := by
  have := hw r hr
  rw [nI_l (by omega), lN_mul, lN_add, show 8 - r = (8 - (r + 1)) + 1 by omega]
  show _ = lN (wN ln wo me e g (8 - (r + 1)) + cN ln me e g (7 - (8 - (r + 1))) * wo (7 - (8 - (r + 1))))
  rw [show 7 - (8 - (r + 1)) = r by omega]
theorem lyC {σ : St} {a1 : Nat} (h8 : ∀ σ, lnO tC σ a1 = 8) (hn : ∀ i, i < 8 → σ.2.1 54 i = nI (ln i) ∧ ln i ≤ 199) (hwo : ∀ i, i < 8 → σ.2.1 55 i = nI (wo i) ∧ wo i ≤ 999) (hm : me ≤ 199) (he : e ≤ 1000) (hl : l ≤ 1000) (hr0 : r0 ≤ 999999) (hg : ∀ i, i < 8 → g i ≤ 40000000) :
    ∀ (r n : Nat) (G : Nat → Int64), r ≤ 8 → r < n → (∀ i, i < r → G i = lN (g i)) → (∀ i, r + 1 ≤ i → i < 8 → G i = lN (yN ln me e l r0 g i)) → ∃ G', f_X8_landedInYear_10 a1 (nI me) (nI e) (nI l) (nI r0) n (lN (wN ln wo me e g (8 - r))) (lN (if r = 7 then vN ln me e l g 7 else 0)) (nI r - 1) (stL σ a1 G) = some (lN (wN ln wo me e g 8), stL σ a1 G') ∧ ∀ i, i < 8 → G' i = lN (yN ln me e l r0 g i) := by
  have hw : ∀ i, i < 8 → wo i ≤ 999 := fun i hi => (hwo i hi).2
  intro r
  induction r with
  | zero =>
    intro n G h1 h2 h3 h4
    obtain ⟨n, rfl⟩ : ∃ q, n = q + 1 := ⟨n - 1, by omega⟩
    refine ⟨vp_updL G 0 (lN r0), ?_, fun i hi => ?_⟩
    · unfold f_X8_landedInYear_10 f_X8_landedInYear_121
      have hle : ¬ lenI tC (stL σ a1 G) a1 ≤ 0 := by unfold lenI; rw [h8]; decide
      have hwl : wl tC (stL σ a1 G) a1 0 (nI r0).toInt64 = some (stL σ a1 (vp_updL G 0 (lN r0))) := by
        show wl tC (stL σ a1 G) a1 (nI 0) (nI r0).toInt64 = _
        rw [wlN (i := 0) rfl (h8 _) (by decide) (by decide), sLs, nI_l (by omega)]
      rw [if_pos (by decide), if_neg hle, hwl]
      rfl
    · by_cases c : i = 0
      · subst c; rw [updL_at]; rfl
      · rw [updL_ne _ _ c]; exact h4 i (by omega) hi
  | succ r ih =>
    intro n G h1 h2 h3 h4
    obtain ⟨n, rfl⟩ : ∃ q, n = q + 1 := ⟨n - 1, by omega⟩
    have hr : r < 8 := by omega
    have hrl : rl tC (stL σ a1 G) a1 (nI r) = some (lN (g r)) := by
      rw [rlN rfl (h8 _) hr (by decide), stL_at, h3 r (by omega)]
    have hle : ¬ lenI tC (stL σ a1 G) a1 ≤ nI r := by unfold lenI; rw [h8]; exact nI_ge (b := 8) hr (by decide)
    have hrd : rd tC (stL σ a1 G) 54 (nI r) = some (nI (ln r)) := by rw [rdC_54 hr, ← (hn r hr).1]; rfl
    have hrw : rd tC (stL σ a1 G) 55 (nI r) = some (nI (wo r)) := by rw [rdC_55 hr, ← (hwo r hr).1]; rfl
    have hln := (hn r hr).2
    have key : ∀ y0 : Int64, y0 = lN (cN ln me e g r) → ∃ G', f_X8_landedInYear_48 a1 (nI me) (nI e) (nI l) (nI r0) (lN (wN ln wo me e g (8 - (r + 1)))) (lN (if r + 1 = 7 then vN ln me e l g 7 else 0)) (nI r) y0 (stL σ a1 G) (f_X8_landedInYear_10 a1 (nI me) (nI e) (nI l) (nI r0) n) = some (lN (wN ln wo me e g 8), stL σ a1 G') ∧ ∀ i, i < 8 → G' i = lN (yN ln me e l r0 g i) := by
      intro y0 ey
      subst ey
      unfold f_X8_landedInYear_48 f_X8_landedInYear_115
      rw [hrl, bS, e_vN hg he hl hr]
      simp only [bndE]
      rw [hrw, bS, e_wN hw hr]
      by_cases c : r = 7
      · subst c
        rw [if_pos (show nI 7 = 7 from rfl), m1s]
        obtain ⟨G', q1, q2⟩ := ih n G (by omega) (by omega) (fun i hi => h3 i (by omega)) (fun i hi hi2 => absurd hi2 (by omega))
        exact ⟨G', q1, q2⟩
      · have hne : ¬ nI r = 7 := fun z => c ((nI_eq (b := 7) (by omega) (by decide)).mp z)
        have hwl : wl tC (stL σ a1 G) a1 (nI r + 1) (lN (vN ln me e l g r) + lN (if r + 1 = 7 then vN ln me e l g 7 else 0)) = some (stL σ a1 (vp_updL G (r + 1) (lN (vN ln me e l g r) + lN (if r + 1 = 7 then vN ln me e l g 7 else 0)))) := by
          rw [nI_1, wlN rfl (h8 _) (show r + 1 < 8 by omega) (by decide), sLs]
        rw [if_neg hne, hwl, bS, m1s]
        have hz : (0 : Int64) = lN (if r = 7 then vN ln me e l g 7 else 0) := by rw [if_neg c]; rfl
        rw [hz]
        refine ih n _ (by omega) (by omega) (fun i hi => ?_) (fun i hi hi2 => ?_)
        · rw [updL_ne _ _ (by omega)]; exact h3 i (by omega)
        · by_cases d : i = r + 1
          · subst d
            rw [updL_at, lN_add]
            congr 1
            unfold yN
            by_cases d7 : r + 1 = 7
            · rw [if_pos d7, if_neg (by omega), if_pos d7, show r = 6 by omega]
            · rw [if_neg d7, if_neg (by omega), if_neg d7]; rfl
          · rw [updL_ne _ _ d]; exact h4 i (by omega) hi2
    unfold f_X8_landedInYear_10
    rw [nI_pred, if_neg (nI_pos (by omega)), if_neg hle, hrd, bS]
    by_cases c : ln r < me
    · rw [if_pos (nI_lt c (by omega))]
      exact key 0 (by unfold cN; rw [if_pos c]; rfl)
    · rw [if_neg (nI_nlt (by omega) (by omega)), hrl, bS]
      exact key _ (by rw [e_cN hg he hr]; unfold cN; rw [if_neg c])
theorem lyM {τ : St} {b : Nat} (hb : b ≤ 8) (hn : ∀ i, i < 8 → τ.2.1 45 i = nI (ln i) ∧ ln i ≤ 199) (hwo : ∀ i, i < 8 → τ.2.1 46 i = nI (wo i) ∧ wo i ≤ 999) (hm : me ≤ 199) (he : e ≤ 1000) (hl : l ≤ 1000) (hr0 : r0 ≤ 999999) (hg : ∀ i, i < 8 → g i ≤ 40000000) :
    ∀ (r n : Nat) (H : Nat → Int64), r ≤ 8 → r < n → (∀ i, i < r → H (b + i) = lN (g i)) → (r = 7 → H (b + 7) = lN (vN ln me e l g 7)) → (∀ i, r + 1 ≤ i → i < 8 → r ≠ 6 + 1 → H (b + i) = lN (yN ln me e l r0 g i)) → ∃ H', f_X11_fishes_7 (nI b) (nI me) (nI e) (nI l) (nI r0) n (lN (wN ln wo me e g (8 - r))) (nI r - 1) (stL τ 47 H) = some (lN (wN ln wo me e g 8), stL τ 47 H') ∧ (∀ i, i < 8 → H' (b + i) = lN (yN ln me e l r0 g i)) ∧ ∀ i, (i < b ∨ b + 8 ≤ i) → H' i = H i := by
  have hw : ∀ i, i < 8 → wo i ≤ 999 := fun i hi => (hwo i hi).2
  intro r
  induction r with
  | zero =>
    intro n H h1 h2 h3 h5 h4
    obtain ⟨n, rfl⟩ : ∃ q, n = q + 1 := ⟨n - 1, by omega⟩
    refine ⟨vp_updL H b (lN r0), ?_, fun i hi => ?_, fun i hi => updL_ne _ _ (by omega)⟩
    · unfold f_X11_fishes_7 f_X11_fishes_150
      rw [if_pos (by decide), wlM_47 (by omega), bS, sLs, nI_l (by omega)]
    · by_cases c : i = 0
      · subst c; rw [Nat.add_zero, updL_at]; rfl
      · rw [updL_ne _ _ (by omega)]; exact h4 i (by omega) hi (by omega)
  | succ r ih =>
    intro n H h1 h2 h3 h5 h4
    obtain ⟨n, rfl⟩ : ∃ q, n = q + 1 := ⟨n - 1, by omega⟩
    have hr : r < 8 := by omega
    have hrl : rl tM (stL τ 47 H) 47 (nI b + nI r) = some (lN (g r)) := by
      rw [nI_add, rlM_47 (by omega), stL_at, h3 r (by omega)]
    have hrd : rd tM (stL τ 47 H) 45 (nI r) = some (nI (ln r)) := by rw [rdM_45 hr, ← (hn r hr).1]; rfl
    have hrw : rd tM (stL τ 47 H) 46 (nI r) = some (nI (wo r)) := by rw [rdM_46 hr, ← (hwo r hr).1]; rfl
    have hln := (hn r hr).2
    have key : ∀ y0 : Int64, y0 = lN (cN ln me e g r) → ∃ H', f_X11_fishes_47 (nI b) (nI me) (nI e) (nI l) (nI r0) (lN (wN ln wo me e g (8 - (r + 1)))) (nI r) (lN (g r)) y0 (stL τ 47 H) (f_X11_fishes_7 (nI b) (nI me) (nI e) (nI l) (nI r0) n) = some (lN (wN ln wo me e g 8), stL τ 47 H') ∧ (∀ i, i < 8 → H' (b + i) = lN (yN ln me e l r0 g i)) ∧ ∀ i, (i < b ∨ b + 8 ≤ i) → H' i = H i := by
      intro y0 ey
      subst ey
      unfold f_X11_fishes_47 f_X11_fishes_144
      rw [hrw, bS, e_wN hw hr, e_vN hg he hl hr]
      simp only [bndE]
      by_cases c : r = 7
      · subst c
        rw [if_pos (show nI 7 = 7 from rfl), nI_add, wlM_47 (by omega), bS, sLs, m1s]
        obtain ⟨H', q1, q2, q3⟩ := ih n (vp_updL H (b + 7) (lN (vN ln me e l g 7))) (by omega) (by omega) (fun i hi => by rw [updL_ne _ _ (by omega)]; exact h3 i (by omega)) (fun _ => updL_at _ _ _) (fun i hi hi2 => absurd hi2 (by omega))
        exact ⟨H', q1, q2, fun i hi => by rw [q3 i hi]; exact updL_ne _ _ (by omega)⟩
      · have hne : ¬ nI r = 7 := fun z => c ((nI_eq (b := 7) (by omega) (by decide)).mp z)
        rw [if_neg hne]
        by_cases c6 : r = 6
        · subst c6
          have e7 : nI b + nI 6 + 1 = nI (b + 7) := by rw [nI_add]; exact nI_add _ 1
          rw [if_pos (show nI 6 = 6 from rfl), e7, rlM_47 (by omega), bS, stL_at, h5 rfl, wlM_47 (by omega), bS, sLs, m1s, lN_add]
          obtain ⟨H', q1, q2, q3⟩ := ih n (vp_updL H (b + 7) (lN (vN ln me e l g 7 + vN ln me e l g 6))) (by omega) (by omega) (fun i hi => by rw [updL_ne _ _ (by omega)]; exact h3 i (by omega)) (fun z => absurd z (by decide)) (fun i hi hi2 _ => by
            have : i = 7 := by omega
            subst this
            rw [updL_at]
            unfold yN
            rw [if_neg (by decide), if_pos rfl, Nat.add_comm])
          exact ⟨H', q1, q2, fun i hi => by rw [q3 i hi]; exact updL_ne _ _ (by omega)⟩
        · have hne6 : ¬ nI r = 6 := fun z => c6 ((nI_eq (b := 6) (by omega) (by decide)).mp z)
          have e7 : nI b + nI r + 1 = nI (b + (r + 1)) := by rw [nI_add]; exact nI_add _ 1
          rw [if_neg hne6, e7, wlM_47 (by omega), bS, sLs, m1s]
          obtain ⟨H', q1, q2, q3⟩ := ih n (vp_updL H (b + (r + 1)) (lN (vN ln me e l g r))) (by omega) (by omega) (fun i hi => by rw [updL_ne _ _ (by omega)]; exact h3 i (by omega)) (fun z => absurd z c) (fun i hi hi2 hi3 => by
            by_cases d : i = r + 1
            · subst d
              rw [updL_at]
              unfold yN
              rw [if_neg (by omega), if_neg (by omega)]
              rfl
            · rw [updL_ne _ _ (by omega)]; exact h4 i (by omega) hi2 (by omega))
          exact ⟨H', q1, q2, fun i hi => by rw [q3 i hi]; exact updL_ne _ _ (by omega)⟩
    unfold f_X11_fishes_7
    rw [nI_pred, if_neg (nI_pos (by omega)), hrl, bS, hrd, bS]
    by_cases c : ln r < me
    · rw [if_neg (nI_ge c (by omega))]
      exact key 0 (by unfold cN; rw [if_pos c]; rfl)
    · rw [if_pos (nI_le (by omega) (by omega))]
      exact key _ (by rw [e_cN hg he hr]; unfold cN; rw [if_neg c])
theorem yC {σ : St} {a1 : Nat} (h8 : ∀ σ, lnO tC σ a1 = 8) (hn : ∀ i, i < 8 → σ.2.1 54 i = nI (ln i) ∧ ln i ≤ 199) (hwo : ∀ i, i < 8 → σ.2.1 55 i = nI (wo i) ∧ wo i ≤ 999) (hm : me ≤ 199) (he : e ≤ 1000) (hl : l ≤ 1000) (hr0 : r0 ≤ 999999) (hg : ∀ i, i < 8 → g i ≤ 40000000) {G : Nat → Int64} (hG : ∀ i, i < 8 → G i = lN (g i)) : ∃ G', f_X8_landedInYear a1 (nI me) (nI e) (nI l) (nI r0) (stL σ a1 G) = some (lN (wN ln wo me e g 8), stL σ a1 G') ∧ ∀ i, i < 8 → G' i = lN (yN ln me e l r0 g i) :=
  lyC h8 hn hwo hm he hl hr0 hg 8 FU G (Nat.le_refl _) (by unfold FU; omega) hG (fun i h1 h2 => absurd h2 (by omega))
theorem yM {τ : St} {b : Nat} (hb : b ≤ 8) (hn : ∀ i, i < 8 → τ.2.1 45 i = nI (ln i) ∧ ln i ≤ 199) (hwo : ∀ i, i < 8 → τ.2.1 46 i = nI (wo i) ∧ wo i ≤ 999) (hm : me ≤ 199) (he : e ≤ 1000) (hl : l ≤ 1000) (hr0 : r0 ≤ 999999) (hg : ∀ i, i < 8 → g i ≤ 40000000) {H : Nat → Int64} (hH : ∀ i, i < 8 → H (b + i) = lN (g i)) : ∃ H', f_X11_fishes (nI b) (nI me) (nI e) (nI l) (nI r0) (stL τ 47 H) = some (lN (wN ln wo me e g 8), stL τ 47 H') ∧ (∀ i, i < 8 → H' (b + i) = lN (yN ln me e l r0 g i)) ∧ ∀ i, (i < b ∨ b + 8 ≤ i) → H' i = H i :=
  lyM hb hn hwo hm he hl hr0 hg 8 FU H (Nat.le_refl _) (by unfold FU; omega) hH (fun z => absurd z (by decide)) (fun i h1 h2 => absurd h2 (by omega))
end YR
theorem bfC {σ : St} {a1 : Nat} {mn : Nat → Nat} (h8 : ∀ σ, lnO tC σ a1 = 8) (hmn : ∀ i, i < 8 → σ.2.1 53 i = nI (mn i) ∧ mn i ≤ 999999) : ∀ (k i n : Nat) (G : Nat → Int64), i + k = 8 → k < n → (∀ q, q < i → G q = lN (mn q)) → ∃ G', f_X8_beginFish_2 a1 n (nI i) (stL σ a1 G) = some (stL σ a1 G') ∧ ∀ q, q < 8 → G' q = lN (mn q) := by
  intro k
  induction k with
  | zero =>
    intro i n G h1 h2 h3
    obtain ⟨n, rfl⟩ : ∃ q, n = q + 1 := ⟨n - 1, by omega⟩
    have : i = 8 := by omega
    subst this
    refine ⟨G, ?_, h3⟩
    unfold f_X8_beginFish_2
    rw [if_pos (show (8 : Int32) ≤ nI 8 from nI_le (a := 8) (b := 8) (by decide) (by decide))]
  | succ k ih =>
    intro i n G h1 h2 h3
    obtain ⟨n, rfl⟩ : ∃ q, n = q + 1 := ⟨n - 1, by omega⟩
    have hle : ¬ lenI tC (stL σ a1 G) a1 ≤ nI i := by unfold lenI; rw [h8]; exact nI_ge (b := 8) (by omega) (by decide)
    have hrd : rd tC (stL σ a1 G) 53 (nI i) = some (nI (mn i)) := by rw [rdC_53 (by omega), ← (hmn i (by omega)).1]; rfl
    have hb := (hmn i (by omega)).2
    unfold f_X8_beginFish_2
    rw [if_neg (show ¬ (8 : Int32) ≤ nI i from nI_ge (b := 8) (by omega) (by decide)), if_neg hle, hrd, bS, nI_l (by omega), wlN rfl (h8 _) (show i < 8 by omega) (by decide), bS, sLs, bndE, nI_1]
    refine ih (i + 1) n _ (by omega) (by omega) (fun q hq => ?_)
    by_cases c : q = i
    · subst c; exact updL_at _ _ _
    · rw [updL_ne _ _ c]; exact h3 q (by omega)
theorem bfM {τ : St} {b : Nat} {mn : Nat → Nat} (hb : b ≤ 8) (hmn : ∀ i, i < 8 → τ.2.1 44 i = nI (mn i) ∧ mn i ≤ 999999) : ∀ (k i n : Nat) (G : Nat → Int64), i + k = 8 → k < n → (∀ q, q < i → G (b + q) = lN (mn q)) → ∃ G', f_X11_asToday_2 (nI b) n (nI i) (stL τ 47 G) = some (stL τ 47 G') ∧ (∀ q, q < 8 → G' (b + q) = lN (mn q)) ∧ ∀ q, (q < b ∨ b + 8 ≤ q) → G' q = G q := by
  intro k
  induction k with
  | zero =>
    intro i n G h1 h2 h3
    obtain ⟨n, rfl⟩ : ∃ q, n = q + 1 := ⟨n - 1, by omega⟩
    have : i = 8 := by omega
    subst this
    refine ⟨G, ?_, h3, fun _ _ => rfl⟩
    unfold f_X11_asToday_2
    rw [if_pos (show (8 : Int32) ≤ nI 8 from nI_le (a := 8) (b := 8) (by decide) (by decide))]
  | succ k ih =>
    intro i n G h1 h2 h3
    obtain ⟨n, rfl⟩ : ∃ q, n = q + 1 := ⟨n - 1, by omega⟩
    have hrd : rd tM (stL τ 47 G) 44 (nI i) = some (nI (mn i)) := by rw [rdM_44 (by omega), ← (hmn i (by omega)).1]; rfl
    have hb2 := (hmn i (by omega)).2
    unfold f_X11_asToday_2
    rw [if_neg (show ¬ (8 : Int32) ≤ nI i from nI_ge (b := 8) (by omega) (by decide)), hrd, bS, nI_l (by omega), nI_add, wlM_47 (by omega), bS, sLs, bndE, nI_1]
    obtain ⟨G', q1, q2, q3⟩ := ih (i + 1) n (vp_updL G (b + i) (lN (mn i))) (by omega) (by omega) (fun q hq => by
      by_cases c : q = i
      · subst c; exact updL_at _ _ _
      · rw [updL_ne _ _ (by omega)]; exact h3 q (by omega))
    exact ⟨G', q1, q2, fun q hq => by rw [q3 q hq]; exact updL_ne _ _ (by omega)⟩
/-- how many fish there may be behind y years -/
def Bd (y : Nat) (g : Nat → Nat) : Prop := (∀ i, i < 7 → g i ≤ 999999) ∧ g 7 ≤ 999999 * (y + 1)
theorem Bd.all {y : Nat} {g : Nat → Nat} (h : Bd y g) (hy : y ≤ 30) : ∀ i, i < 8 → g i ≤ 40000000 := by
  intro i hi
  by_cases c : i = 7
  · subst c; have := h.2; omega
  · have := h.1 i (by omega); omega
theorem Bd.step {ln : Nat → Nat} {me e l r y : Nat} {g : Nat → Nat} (h : Bd y g) (hr : r ≤ 999999) : Bd (y + 1) (yN ln me e l r g) := by
  refine ⟨fun i hi => ?_, ?_⟩
  · unfold yN
    split
    · exact hr
    · rw [if_neg (by omega)]
      exact Nat.le_trans (vN_le _) (h.1 _ (by omega))
  · show (if 7 = 0 then r else if 7 = 7 then vN ln me e l g 6 + vN ln me e l g 7 else _) ≤ _
    rw [if_neg (by decide), if_pos rfl]
    have h1 := vN_le (ln := ln) (me := me) (e := e) (l := l) (g := g) 6
    have h2 := vN_le (ln := ln) (me := me) (e := e) (l := l) (g := g) 7
    have h3 := h.1 6 (by decide)
    have h4 := h.2
    omega
theorem landed_loop {σ τ : St} {ln wo : Nat → Nat} {me e l r0 Y : Nat} (hn : ∀ i, i < 8 → σ.2.1 54 i = nI (ln i) ∧ ln i ≤ 199) (hwo : ∀ i, i < 8 → σ.2.1 55 i = nI (wo i) ∧ wo i ≤ 999) (hn' : ∀ i, i < 8 → τ.2.1 45 i = nI (ln i) ∧ ln i ≤ 199) (hwo' : ∀ i, i < 8 → τ.2.1 46 i = nI (wo i) ∧ wo i ≤ 999) (hm : me ≤ 199) (he : e ≤ 1000) (hl : l ≤ 1000) (hr0 : r0 ≤ 999999) (hY : Y ≤ 30) :
    ∀ (k y n n' : Nat) (c : Int64) (g : Nat → Nat) (G H : Nat → Int64), y + k = Y → k < n → k < n' → Bd y g → (∀ i, i < 8 → G i = lN (g i)) → (∀ i, i < 8 → H (0 + i) = lN (g i)) → ∃ (r : Int64) (G' H' : Nat → Int64), f_X8_landedBy_14 (nI Y) (nI me) (nI e) (nI l) (nI r0) n c (nI y) (stL σ 56 G) = some (r, stL σ 56 G') ∧ f_X11_landed_39 (nI Y) (nI me) (nI e) (nI l) (nI r0) n' c (nI y) (stL τ 47 H) = some (r, stL τ 47 H') := by
  intro k
  induction k with
  | zero =>
    intro y n n' c g G H h1 h2 h3 h4 h5 h6
    obtain ⟨n, rfl⟩ : ∃ q, n = q + 1 := ⟨n - 1, by omega⟩
    obtain ⟨n', rfl⟩ : ∃ q, n' = q + 1 := ⟨n' - 1, by omega⟩
    have : y = Y := by omega
    subst this
    refine ⟨c, G, H, ?_, ?_⟩
    · unfold f_X8_landedBy_14; rw [if_pos (nI_le (Nat.le_refl _) (by omega))]
    · unfold f_X11_landed_39; rw [if_pos (nI_le (Nat.le_refl _) (by omega))]
  | succ k ih =>
    intro y n n' c g G H h1 h2 h3 h4 h5 h6
    obtain ⟨n, rfl⟩ : ∃ q, n = q + 1 := ⟨n - 1, by omega⟩
    obtain ⟨n', rfl⟩ : ∃ q, n' = q + 1 := ⟨n' - 1, by omega⟩
    obtain ⟨G', p1, p2⟩ := yC (a1 := 56) (fun _ => rfl) hn hwo hm he hl hr0 (h4.all (by omega)) h5
    obtain ⟨H', q1, q2, q3⟩ := yM (b := 0) (by decide) hn' hwo' hm he hl hr0 (h4.all (by omega)) h6
    have q1 : f_X11_fishes 0 (nI me) (nI e) (nI l) (nI r0) (stL τ 47 H) = _ := q1
    obtain ⟨r, G2, H2, z1, z2⟩ := ih (y + 1) n n' (c + lN (wN ln wo me e g 8)) _ G' H' (by omega) (by omega) (by omega) (h4.step hr0) p2 q2
    refine ⟨r, G2, H2, ?_, ?_⟩
    · unfold f_X8_landedBy_14
      rw [if_neg (nI_ge (by omega) (by omega)), p1, bS, bndE, bndE, nI_1]
      exact z1
    · unfold f_X11_landed_39
      rw [if_neg (nI_ge (by omega) (by omega)), q1, bS, bndE, bndE, nI_1]
      exact z2
theorem age_of {σ τ : St} (h : M_age σ τ) : ∃ mn ln wo : Nat → Nat, (∀ i, i < 8 → σ.2.1 53 i = nI (mn i) ∧ mn i ≤ 999999) ∧ (∀ i, i < 8 → σ.2.1 54 i = nI (ln i) ∧ ln i ≤ 199) ∧ (∀ i, i < 8 → σ.2.1 55 i = nI (wo i) ∧ wo i ≤ 999) ∧ (∀ i, i < 8 → τ.2.1 44 i = nI (mn i) ∧ mn i ≤ 999999) ∧ (∀ i, i < 8 → τ.2.1 45 i = nI (ln i) ∧ ln i ≤ 199) ∧ (∀ i, i < 8 → τ.2.1 46 i = nI (wo i) ∧ wo i ≤ 999) := by
  obtain ⟨a1, a2, a3, a4, a5, a6⟩ := h
  refine ⟨fun i => nN (σ.2.1 53 i), fun i => nN (σ.2.1 54 i), fun i => nN (σ.2.1 55 i), fun i _ => nN_of (by decide) (a4 i), fun i _ => nN_of (by decide) (a5 i), fun i _ => nN_of (by decide) (a6 i), ?_, ?_, ?_⟩
  · rw [← a1]; exact fun i _ => nN_of (by decide) (a4 i)
  · rw [← a2]; exact fun i _ => nN_of (by decide) (a5 i)
  · rw [← a3]; exact fun i _ => nN_of (by decide) (a6 i)
theorem canF (x e l r : Int32) : (f_X10_canFish x e l r = 0) = ¬ ((0 ≤ x.toInt ∧ x.toInt ≤ 199) ∧ (0 ≤ e.toInt ∧ e.toInt ≤ 1000) ∧ (0 ≤ l.toInt ∧ l.toInt ≤ 1000) ∧ 0 ≤ r.toInt ∧ r.toInt ≤ 999999) := by
  unfold f_X10_canFish f_X10_canFish_48
  simp only [lies0, in0, wdL, side0, author0, minute0, year0, week0, cell0, mside0, mminute0, myear0, mweek0, mship0, mtown0, ship0, town0, law0, mcell0, gF, ltI, leI, Int32.reduceToInt, Int64.reduceToInt]
  apply propext
  (repeat' split) <;> first | exact ⟨fun _ => by omega, fun _ => rfl⟩ | exact ⟨fun h => absurd h (by decide), fun h => by omega⟩
theorem isF (x e l r : Int32) : (f_X11_isFishing x e l r = 0) = ¬ ((0 ≤ x.toInt ∧ x.toInt ≤ 199) ∧ (0 ≤ e.toInt ∧ e.toInt ≤ 1000) ∧ (0 ≤ l.toInt ∧ l.toInt ≤ 1000) ∧ 0 ≤ r.toInt ∧ r.toInt ≤ 999999) := by
  unfold f_X11_isFishing f_X11_isFishing_52
  simp only [lies0, in0, wdL, side0, author0, minute0, year0, week0, cell0, mside0, mminute0, myear0, mweek0, mship0, mtown0, ship0, town0, law0, mcell0, gF, ltI, leI, Int32.reduceToInt, Int64.reduceToInt]
  apply propext
  (repeat' split) <;> first | exact ⟨fun _ => by omega, fun _ => rfl⟩ | exact ⟨fun h => absurd h (by decide), fun h => by omega⟩
def Tt (_ _ : St) : Prop := True
def OpL (fc fm : Option (Int64 × St)) (P : St → St → Prop) (F G : List Nat × List Nat × List Nat) (σ τ : St) : Prop := Op fc fm P F G σ τ
theorem o_landed (Y x e l r : Int32) {σ τ : St} (h : M_age σ τ) : Op (f_X10_landed Y x e l r σ) (f_X11_landed Y x e l r τ) Tt ([], [], [56]) ([], [], [47]) σ τ := by
  by_cases hg : (1 ≤ Y.toInt ∧ Y.toInt ≤ 30) ∧ (0 ≤ x.toInt ∧ x.toInt ≤ 199) ∧ (0 ≤ e.toInt ∧ e.toInt ≤ 1000) ∧ (0 ≤ l.toInt ∧ l.toInt ≤ 1000) ∧ 0 ≤ r.toInt ∧ r.toInt ≤ 999999
  · obtain ⟨g0, g1, g2, g3, g4⟩ := hg
    obtain ⟨mn, ln, wo, b1, b2, b3, b4, b5, b6⟩ := age_of h
    have cF : f_X10_canFish x e l r ≠ 0 := by rw [Ne, canF]; exact not_not_intro ⟨g1, g2, g3, g4⟩
    have iF : f_X11_isFishing x e l r ≠ 0 := by rw [Ne, isF]; exact not_not_intro ⟨g1, g2, g3, g4⟩
    obtain ⟨iY, hY, rfl⟩ := nI_btw (n := 30) (by omega) g0.2
    obtain ⟨ix, hx, rfl⟩ := nI_btw (n := 199) g1.1 g1.2
    obtain ⟨ie, he, rfl⟩ := nI_btw (n := 1000) g2.1 g2.2
    obtain ⟨il, hl, rfl⟩ := nI_btw (n := 1000) g3.1 g3.2
    obtain ⟨ir, hr, rfl⟩ := nI_btw (n := 999999) g4.1 g4.2
    obtain ⟨G, c1, c2⟩ := bfC (σ := σ) (a1 := 56) (fun _ => rfl) b1 8 0 FU (σ.2.2 56) (by omega) (by unfold FU; omega) (fun q hq => absurd hq (by omega))
    obtain ⟨H, d1, d2, -⟩ := bfM (τ := τ) (b := 0) (by decide) b4 8 0 FU (τ.2.2 47) (by omega) (by unfold FU; omega) (fun q hq => absurd hq (by omega))
    rw [stL_same] at c1 d1
    obtain ⟨v, G', H', e1, e2⟩ := landed_loop b2 b3 b5 b6 hx he hl hr hY iY 0 FU FU 0 mn G H (by omega) (by unfold FU; omega) (by unfold FU; omega) ⟨fun i hi => (b1 i (by omega)).2, by have := (b1 7 (by decide)).2; omega⟩ c2 d2
    refine ⟨v, stL σ 56 G', stL τ 47 H', ?_, ?_, trivial, Fr.rf.wSL (by decide), Fr.rf.wSL (by decide)⟩
    · unfold f_X10_landed f_X8_landedBy f_X8_beginFish
      rw [if_neg (by rw [lies0]; exact not_not_intro g0), if_neg cF, show f_X8_beginFish_2 56 FU 0 σ = _ from c1, bS, show f_X8_landedBy_14 (nI iY) (nI ix) (nI ie) (nI il) (nI ir) FU 0 0 (stL σ 56 G) = _ from e1]
      rfl
    · unfold f_X11_landed f_X11_asToday
      rw [if_neg (by rw [in0, wdL]; exact not_not_intro g0), if_neg iF, show f_X11_asToday_2 0 FU 0 τ = _ from d1, bS]
      exact e2
  · refine Op.no (-1) ?_ ?_ trivial
    · unfold f_X10_landed
      simp only [canF, lies0, in0, wdL, side0, author0, minute0, year0, week0, cell0, mside0, mminute0, myear0, mweek0, mship0, mtown0, ship0, town0, law0, mcell0, gF, ltI, leI, Int32.reduceToInt, Int64.reduceToInt]
      (repeat' split) <;> first | rfl | (exfalso; omega)
    · unfold f_X11_landed
      simp only [isF, lies0, in0, wdL, side0, author0, minute0, year0, week0, cell0, mside0, mminute0, myear0, mweek0, mship0, mtown0, ship0, town0, law0, mcell0, gF, ltI, leI, Int32.reduceToInt, Int64.reduceToInt]
      (repeat' split) <;> first | rfl | (exfalso; omega)
theorem pays_loop {σ τ : St} {ln wo : Nat → Nat} {ma mb e l r0 : Nat} (hn : ∀ i, i < 8 → σ.2.1 54 i = nI (ln i) ∧ ln i ≤ 199) (hwo : ∀ i, i < 8 → σ.2.1 55 i = nI (wo i) ∧ wo i ≤ 999) (hn' : ∀ i, i < 8 → τ.2.1 45 i = nI (ln i) ∧ ln i ≤ 199) (hwo' : ∀ i, i < 8 → τ.2.1 46 i = nI (wo i) ∧ wo i ≤ 999) (hma : ma ≤ 199) (hmb : mb ≤ 199) (he : e ≤ 1000) (hl : l ≤ 1000) (hr0 : r0 ≤ 999999) :
    ∀ (k y n n' A O : Nat) (c : Int64) (ga gb : Nat → Nat) (G1 G2 H : Nat → Int64), y + k = 31 → 1 ≤ y → k < n → k < n' → Bd (y - 1) ga → Bd (y - 1) gb → (∀ i, i < 8 → G1 i = lN (ga i)) → (∀ i, i < 8 → G2 i = lN (gb i)) → (∀ i, i < 8 → H (0 + i) = lN (ga i)) → (∀ i, i < 8 → H (8 + i) = lN (gb i)) → A ≤ y * 400000000000 → O ≤ y * 400000000000 → c.toInt = (O : Int) - A → ∃ (r : Int32) (G1' G2' H' : Nat → Int64), f_X8_paysFrom_22 (nI ma) (nI mb) (nI e) (nI l) (nI r0) n c (nI y) (stL (stL σ 56 G1) 57 G2) = some (r, stL (stL σ 56 G1') 57 G2') ∧ f_X11_pays_46 (nI ma) (nI mb) (nI e) (nI l) (nI r0) n' (lN A) (lN O) (nI y) (stL τ 47 H) = some (r, stL τ 47 H') := by
  have hws : ∀ i, i < 8 → wo i ≤ 999 := fun i hi => (hwo i hi).2
  intro k
  induction k with
  | zero =>
    intro y n n' A O c ga gb G1 G2 H h1 h1' h2 h3 ba bb x1 x2 x3 x4 hA hO hc
    obtain ⟨n, rfl⟩ : ∃ q, n = q + 1 := ⟨n - 1, by omega⟩
    obtain ⟨n', rfl⟩ : ∃ q, n' = q + 1 := ⟨n' - 1, by omega⟩
    have : y = 31 := by omega
    subst this
    refine ⟨-2, G1, G2, H, ?_, ?_⟩
    · unfold f_X8_paysFrom_22; rw [if_pos (show (30 : Int32) < nI 31 from nI_lt (a := 30) (b := 31) (by decide) (by decide))]
    · unfold f_X11_pays_46; rw [if_pos (show (30 : Int32) < nI 31 from nI_lt (a := 30) (b := 31) (by decide) (by decide))]
  | succ k ih =>
    intro y n n' A O c ga gb G1 G2 H h1 h1' h2 h3 ba bb x1 x2 x3 x4 hA hO hc
    obtain ⟨n, rfl⟩ : ∃ q, n = q + 1 := ⟨n - 1, by omega⟩
    obtain ⟨n', rfl⟩ : ∃ q, n' = q + 1 := ⟨n' - 1, by omega⟩
    have hy : ¬ (30 : Int32) < nI y := fun z => by have := (nI_ltI (a := 30) (by decide) (by omega)).mp z; omega
    obtain ⟨G2', p1, p2⟩ := yC (σ := stL σ 56 G1) (a1 := 57) (fun _ => rfl) hn hwo hmb he hl hr0 (bb.all (by omega)) x2
    obtain ⟨G1', p3, p4⟩ := yC (σ := stL σ 57 G2') (a1 := 56) (fun _ => rfl) hn hwo hma he hl hr0 (ba.all (by omega)) x1
    obtain ⟨H', q1, q2, q3⟩ := yM (b := 0) (by decide) hn' hwo' hma he hl hr0 (ba.all (by omega)) x3
    obtain ⟨H2, q4, q5, q6⟩ := yM (b := 8) (H := H') (by decide) hn' hwo' hmb he hl hr0 (bb.all (by omega)) (fun i hi => by rw [q3 (8 + i) (by omega)]; exact x4 i hi)
    have q1 : f_X11_fishes 0 (nI ma) (nI e) (nI l) (nI r0) (stL τ 47 H) = _ := q1
    have q4 : f_X11_fishes 8 (nI mb) (nI e) (nI l) (nI r0) (stL τ 47 H') = _ := q4
    have w1 := wN_le (ln := ln) (wo := wo) (me := ma) he (ba.all (by omega)) hws 8 (Nat.le_refl _)
    have w2 := wN_le (ln := ln) (wo := wo) (me := mb) he (bb.all (by omega)) hws 8 (Nat.le_refl _)
    generalize wN ln wo ma e ga 8 = wa at *
    generalize wN ln wo mb e gb 8 = wb at *
    have t1 := pk_lT (n := wa) (by omega)
    have t2 := pk_lT (n := wb) (by omega)
    have s1 : (c + lN wb).toInt = (O : Int) - A + wb := by rw [addL (by omega) (by omega), hc, t2]
    have s2 : (c + lN wb - lN wa).toInt = (O : Int) - A + wb - wa := by rw [subL (by omega) (by omega), s1, t1]
    by_cases d : O + wb < A + wa
    · obtain ⟨r, G1f, G2f, Hf, z1, z2⟩ := ih (y + 1) n n' (A + wa) (O + wb) (c + lN wb - lN wa) _ _ G1' G2' H2 (by omega) (by omega) (by omega) (by omega) (by have := ba.step (ln := ln) (me := ma) (e := e) (l := l) hr0; rw [show y - 1 + 1 = y + 1 - 1 by omega] at this; exact this) (by have := bb.step (ln := ln) (me := mb) (e := e) (l := l) hr0; rw [show y - 1 + 1 = y + 1 - 1 by omega] at this; exact this) p4 p2 (fun i hi => by rw [q6 (0 + i) (by omega)]; exact q2 i hi) q5 (by omega) (by omega) (by rw [s2]; omega)
      refine ⟨r, G1f, G2f, Hf, ?_, ?_⟩
      · unfold f_X8_paysFrom_22
        rw [if_neg hy, p1, bS]
        dsimp only
        rw [bndE, stL_comm (show (56 : Nat) ≠ 57 by decide), p3, bS]
        dsimp only
        rw [bndE, if_pos (by rw [ltL, s2]; show _ < (0 : Int); omega), bndE, nI_1, stL_comm (show (57 : Nat) ≠ 56 by decide)]
        exact z1
      · unfold f_X11_pays_46
        rw [if_neg hy, q1, bS, bndE, q4, bS, bndE, lN_add, lN_add, if_pos ((pk_lLT (by omega) (by omega)).mpr d), bndE, nI_1]
        exact z2
    · refine ⟨nI y, G1', G2', H2, ?_, ?_⟩
      · unfold f_X8_paysFrom_22
        rw [if_neg hy, p1, bS]
        dsimp only
        rw [bndE, stL_comm (show (56 : Nat) ≠ 57 by decide), p3, bS]
        dsimp only
        rw [bndE, if_neg (by rw [ltL, s2]; show ¬ _ < (0 : Int); omega), stL_comm (show (57 : Nat) ≠ 56 by decide)]
      · unfold f_X11_pays_46
        rw [if_neg hy, q1, bS, bndE, q4, bS, bndE, lN_add, lN_add, if_neg (fun z => d ((pk_lLT (by omega) (by omega)).mp z))]
theorem o_pays (x y e l r : Int32) {σ τ : St} (h : M_age σ τ) : Op (f_X10_pays x y e l r σ) (f_X11_pays x y e l r τ) Tt ([], [], [56, 57]) ([], [], [47]) σ τ := by
  by_cases hg : (0 ≤ x.toInt ∧ x.toInt ≤ 199) ∧ (0 ≤ y.toInt ∧ y.toInt ≤ 199) ∧ (0 ≤ e.toInt ∧ e.toInt ≤ 1000) ∧ (0 ≤ l.toInt ∧ l.toInt ≤ 1000) ∧ 0 ≤ r.toInt ∧ r.toInt ≤ 999999
  · obtain ⟨g0, g1, g2, g3, g4⟩ := hg
    obtain ⟨mn, ln, wo, b1, b2, b3, b4, b5, b6⟩ := age_of h
    have cF : f_X10_canFish x e l r ≠ 0 := by rw [Ne, canF]; exact not_not_intro ⟨g0, g2, g3, g4⟩
    have cF2 : f_X10_canFish y e l r ≠ 0 := by rw [Ne, canF]; exact not_not_intro ⟨g1, g2, g3, g4⟩
    have iF : f_X11_isFishing x e l r ≠ 0 := by rw [Ne, isF]; exact not_not_intro ⟨g0, g2, g3, g4⟩
    obtain ⟨ix, hx, rfl⟩ := nI_btw (n := 199) g0.1 g0.2
    obtain ⟨iy, hy, rfl⟩ := nI_btw (n := 199) g1.1 g1.2
    obtain ⟨ie, he, rfl⟩ := nI_btw (n := 1000) g2.1 g2.2
    obtain ⟨il, hl, rfl⟩ := nI_btw (n := 1000) g3.1 g3.2
    obtain ⟨ir, hr, rfl⟩ := nI_btw (n := 999999) g4.1 g4.2
    obtain ⟨G1, c1, c2⟩ := bfC (σ := σ) (a1 := 56) (fun _ => rfl) b1 8 0 FU (σ.2.2 56) (by omega) (by unfold FU; omega) (fun q hq => absurd hq (by omega))
    obtain ⟨G2, c3, c4⟩ := bfC (σ := stL σ 56 G1) (a1 := 57) (fun _ => rfl) b1 8 0 FU ((stL σ 56 G1).2.2 57) (by omega) (by unfold FU; omega) (fun q hq => absurd hq (by omega))
    obtain ⟨H1, d1, d2, -⟩ := bfM (τ := τ) (b := 0) (by decide) b4 8 0 FU (τ.2.2 47) (by omega) (by unfold FU; omega) (fun q hq => absurd hq (by omega))
    obtain ⟨H2, d3, d4, d5⟩ := bfM (τ := τ) (b := 8) (by decide) b4 8 0 FU H1 (by omega) (by unfold FU; omega) (fun q hq => absurd hq (by omega))
    rw [stL_same] at c1 c3 d1
    have b0 : Bd 0 mn := ⟨fun i hi => (b1 i (by omega)).2, by have := (b1 7 (by decide)).2; omega⟩
    obtain ⟨v, G1', G2', H', e1, e2⟩ := pays_loop b2 b3 b5 b6 hx hy he hl hr 30 1 FU FU 0 0 0 mn mn G1 G2 H2 (by omega) (by omega) (by unfold FU; omega) (by unfold FU; omega) b0 b0 c2 c4 (fun i hi => by rw [d5 (0 + i) (by omega)]; exact d2 i hi) d4 (by omega) (by omega) rfl
    refine ⟨v, stL (stL σ 56 G1') 57 G2', stL τ 47 H', ?_, ?_, trivial, (Fr.rf.wSL (by decide)).wSL (by decide), Fr.rf.wSL (by decide)⟩
    · unfold f_X10_pays f_X8_paysFrom f_X8_beginFish
      rw [if_neg cF, if_neg cF2, show f_X8_beginFish_2 56 FU 0 σ = _ from c1, bS, show f_X8_beginFish_2 57 FU 0 (stL σ 56 G1) = _ from c3, bS, show f_X8_paysFrom_22 (nI ix) (nI iy) (nI ie) (nI il) (nI ir) FU 0 1 (stL (stL σ 56 G1) 57 G2) = _ from e1]
      rfl
    · unfold f_X11_pays f_X11_asToday
      rw [if_neg iF, if_neg (by rw [in0, wdL]; exact not_not_intro g1), show f_X11_asToday_2 0 FU 0 τ = _ from d1, bS, show f_X11_asToday_2 8 FU 0 (stL τ 47 H1) = _ from d3, bS]
      exact e2
  · refine Op.no (-1) ?_ ?_ trivial
    · unfold f_X10_pays
      simp only [canF, lies0, in0, wdL, side0, author0, minute0, year0, week0, cell0, mside0, mminute0, myear0, mweek0, mship0, mtown0, ship0, town0, law0, mcell0, gF, ltI, leI, Int32.reduceToInt, Int64.reduceToInt]
      (repeat' split) <;> first | rfl | (exfalso; omega)
    · unfold f_X11_pays
      simp only [isF, lies0, in0, wdL, side0, author0, minute0, year0, week0, cell0, mside0, mminute0, myear0, mweek0, mship0, mtown0, ship0, town0, law0, mcell0, gF, ltI, leI, Int32.reduceToInt, Int64.reduceToInt]
      (repeat' split) <;> first | rfl | (exfalso; omega)
