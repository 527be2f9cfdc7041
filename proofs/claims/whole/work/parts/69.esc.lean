/-! escort: the rows, and what is taken -/
theorem fillL {a N : Nat} (v : Int64) (hN : ∀ σ, lnO tC σ a = N) (hB : N < 60000) {σ : St} : ∃ L, f_J7_fill_d0a16 a v σ = some (stL σ a L) ∧ ∀ i, i < N → L i = v := by
  have key : ∀ (k i m : Nat) (L : Nat → Int64), i + k = N → k < m → (∀ j, j < i → L j = v) → ∃ L', f_J7_fill_d0a16_6 a v (nI N) m (nI i) (stL σ a L) = some (stL σ a L') ∧ ∀ j, j < N → L' j = v := by
    intro k
    induction k with
    | zero =>
      intro i m L h1 h2 h3
      obtain ⟨m, rfl⟩ : ∃ q, m = q + 1 := ⟨m - 1, by omega⟩
      have : i = N := by omega
      subst this
      refine ⟨L, ?_, h3⟩
      unfold f_J7_fill_d0a16_6
      rw [if_pos (nI_le (Nat.le_refl _) (by omega))]
    | succ k ih =>
      intro i m L h1 h2 h3
      obtain ⟨m, rfl⟩ : ∃ q, m = q + 1 := ⟨m - 1, by omega⟩
      unfold f_J7_fill_d0a16_6
      rw [if_neg (nI_ge (by omega) (by omega)), wlN rfl (hN _) (show i < N by omega) (by omega), bS, bndE, nI_1, sLs]
      refine ih (i + 1) m _ (by omega) (by omega) (fun j hj => ?_)
      by_cases c : j = i
      · subst c; exact updL_at _ _ _
      · rw [updL_ne _ _ c]; exact h3 j (by omega)
  obtain ⟨L, h1, h2⟩ := key N 0 FU (σ.2.2 a) (by omega) (by unfold FU; omega) (fun j hj => absurd hj (by omega))
  refine ⟨L, ?_, h2⟩
  unfold f_J7_fill_d0a16 lenI
  rw [hN, bndE]
  rw [stL_same] at h1
  exact h1
section ES
variable {σ τ : St} {n : Nat} {P Q R : Nat → Int32}
def Gd (P Q R : Nat → Int32) (b t f : Nat) (Lc Lm : Nat → Int64) : Prop := Lc (91 * b + 7 * t + f) = Lm (91 * b + 7 * t + f) ∧ Mn (fun x y => x ≤ t ∧ y ≤ f) (fun x y => Lc (91 * (b + 1) + 7 * (t - x) + (f - y))) (wV P Q R b) (Lc (91 * b + 7 * t + f))
theorem Gd.same {b t f : Nat} {Lc Lm Lc' Lm' : Nat → Int64} (h : Gd P Q R b t f Lc Lm) (h1 : Lc' (91 * b + 7 * t + f) = Lc (91 * b + 7 * t + f)) (h2 : Lm' (91 * b + 7 * t + f) = Lm (91 * b + 7 * t + f)) (h3 : ∀ i, 91 * (b + 1) ≤ i → Lc' i = Lc i) : Gd P Q R b t f Lc' Lm' := by
  refine ⟨by rw [h1, h2]; exact h.1, ?_⟩
  have e : (fun x y => Lc' (91 * (b + 1) + 7 * (t - x) + (f - y))) = (fun x y => Lc (91 * (b + 1) + 7 * (t - x) + (f - y))) := by
    funext x y
    exact h3 _ (by omega)
  rw [h1, e]
  exact h.2
theorem row_in (hn : n ≤ 6) (h1 : σ.1 1003 = nI n) (hP : σ.2.1 65 = P) (hQ : σ.2.1 66 = Q) (hR : σ.2.1 67 = R) (hP' : τ.2.1 57 = P) (hQ' : τ.2.1 58 = Q) (hR' : τ.2.1 59 = R) {b t T F : Nat} (hb : b < n) (hT : T ≤ 12) (hF : F ≤ 6) (ht : t ≤ T) {k3 : Int32 → St → Option St} {k101 k94 : Int32 → St → Option (Int32 × St)} :
    ∀ (k f m m' : Nat) (Lc Lm : Nat → Int64), f + k = F + 1 → k < m → k < m' → (∀ t' f', t' ≤ T → f' ≤ F → Lc (91 * (b + 1) + 7 * t' + f') = Lm (91 * (b + 1) + 7 * t' + f')) → (∀ t' f', (t' < t ∨ (t' = t ∧ f' < f)) → f' ≤ F → Gd P Q R b t' f' Lc Lm) → ∃ Lc' Lm', f_X0_weighFrom_19 (nI b) (nI T) (nI F) (nI t) k3 m (nI f) (stL σ 68 Lc) = k3 (nI (t + 1)) (stL σ 68 Lc') ∧ f_X11_escort_110 (nI T) (nI F) (nI b) (nI t) k101 k94 m' (nI f) (stL τ 60 Lm) = k101 (nI (t + 1)) (stL τ 60 Lm') ∧ (∀ i, 91 * (b + 1) ≤ i → Lc' i = Lc i ∧ Lm' i = Lm i) ∧ ∀ t' f', t' < t + 1 → f' ≤ F → Gd P Q R b t' f' Lc' Lm' := by
  intro k
  induction k with
  | zero =>
    intro f m m' Lc Lm e1 e2 e3 hA hG
    obtain ⟨m, rfl⟩ : ∃ q, m = q + 1 := ⟨m - 1, by omega⟩
    obtain ⟨m', rfl⟩ : ∃ q, m' = q + 1 := ⟨m' - 1, by omega⟩
    refine ⟨Lc, Lm, ?_, ?_, fun i _ => ⟨rfl, rfl⟩, fun t' f' h2 h3 => hG t' f' (by omega) h3⟩
    · unfold f_X0_weighFrom_19 f_X0_weighFrom_60
      rw [if_pos (nI_lt (by omega) (by omega)), bndE, nI_1]
    · unfold f_X11_escort_110 f_X11_escort_144
      rw [if_pos (nI_lt (by omega) (by omega)), bndE, nI_1]
  | succ k ih =>
    intro f m m' Lc Lm e1 e2 e3 hA hG
    obtain ⟨m, rfl⟩ : ∃ q, m = q + 1 := ⟨m - 1, by omega⟩
    obtain ⟨m', rfl⟩ : ∃ q, m' = q + 1 := ⟨m' - 1, by omega⟩
    obtain ⟨v, z1, z2, z3⟩ := weigh_all hn h1 hP hQ hR hP' hQ' hR' hb (show t ≤ 12 by omega) (show f ≤ 6 by omega) (fun t' f' a c => hA t' f' (by omega) (by omega)) (t + 1) 0 FU FU 1000000000000 (by omega) (by unfold FU; omega) (by unfold FU; omega) ⟨Or.inl (by simp only [Int64.reduceToInt]), fun x y hd => absurd hd.1 (by omega)⟩
    have z1 : f_X0_weigh (nI b) (nI t) (nI f) (stL σ 68 Lc) = some v := z1
    have z2 : f_X11_bestFrom (nI b) (nI t) (nI f) (stL τ 60 Lm) = some v := z2
    have h6 : ¬ (6 : Int32) < nI f := fun z => by have := (nI_ltI (a := 6) (by decide) (by omega)).mp z; omega
    have up : ∀ (L : Nat → Int64) (t' f' : Nat), f' ≤ 6 → (t' ≠ t ∨ f' ≠ f) → vp_updL L (91 * b + 7 * t + f) v (91 * b + 7 * t' + f') = L (91 * b + 7 * t' + f') := fun L t' f' hf' hd => updL_ne _ _ (by omega)
    have uq : ∀ (L : Nat → Int64) (i : Nat), 91 * (b + 1) ≤ i → vp_updL L (91 * b + 7 * t + f) v i = L i := fun L i hi => updL_ne _ _ (by omega)
    obtain ⟨Lc', Lm', y1, y2, y3, y4⟩ := ih (f + 1) m m' (vp_updL Lc (91 * b + 7 * t + f) v) (vp_updL Lm (91 * b + 7 * t + f) v) (by omega) (by omega) (by omega) (fun t' f' a c => by rw [uq _ _ (by omega), uq _ _ (by omega)]; exact hA t' f' a c) (fun t' f' a c => by
      by_cases d : t' = t ∧ f' = f
      · obtain ⟨rfl, rfl⟩ := d
        refine ⟨by rw [updL_at, updL_at], ?_⟩
        have e : (fun x y => vp_updL Lc (91 * b + 7 * t' + f') v (91 * (b + 1) + 7 * (t' - x) + (f' - y))) = (fun x y => Lc (91 * (b + 1) + 7 * (t' - x) + (f' - y))) := by
          funext x y
          exact uq _ _ (by omega)
        rw [updL_at, e]
        exact z3
      · exact (hG t' f' (by omega) c).same (up _ _ _ (by omega) (by omega)) (up _ _ _ (by omega) (by omega)) (uq _))
    refine ⟨Lc', Lm', ?_, ?_, fun i hi => ⟨(y3 i hi).1.trans (uq _ _ hi), (y3 i hi).2.trans (uq _ _ hi)⟩, y4⟩
    · unfold f_X0_weighFrom_19
      rw [if_neg (nI_nlt (by omega) (by omega)), if_neg h6, z1, bS, plC, wlC_68 (by omega), bS, bndE, nI_1, sLs]
      exact y1
    · unfold f_X11_escort_110
      rw [if_neg (nI_nlt (by omega) (by omega)), z2, bS, plM, wlM_60 (by omega), bS, bndE, nI_1, sLs]
      exact y2
theorem row_out (hn : n ≤ 6) (h1 : σ.1 1003 = nI n) (hP : σ.2.1 65 = P) (hQ : σ.2.1 66 = Q) (hR : σ.2.1 67 = R) (hP' : τ.2.1 57 = P) (hQ' : τ.2.1 58 = Q) (hR' : τ.2.1 59 = R) {b T F : Nat} (hb : b < n) (hT : T ≤ 12) (hF : F ≤ 6) {k94 : Int32 → St → Option (Int32 × St)} :
    ∀ (k t m m' : Nat) (Lc Lm : Nat → Int64), t + k = T + 1 → k < m → k < m' → (∀ t' f', t' ≤ T → f' ≤ F → Lc (91 * (b + 1) + 7 * t' + f') = Lm (91 * (b + 1) + 7 * t' + f')) → (∀ t' f', t' < t → f' ≤ F → Gd P Q R b t' f' Lc Lm) → ∃ Lc' Lm', f_X0_weighFrom_3 (nI b) (nI T) (nI F) m (nI t) (stL σ 68 Lc) = some (stL σ 68 Lc') ∧ f_X11_escort_101 (nI T) (nI F) (nI b) k94 m' (nI t) (stL τ 60 Lm) = k94 (nI b + (-1)) (stL τ 60 Lm') ∧ (∀ i, 91 * (b + 1) ≤ i → Lc' i = Lc i ∧ Lm' i = Lm i) ∧ ∀ t' f', t' ≤ T → f' ≤ F → Gd P Q R b t' f' Lc' Lm' := by
  intro k
  induction k with
  | zero =>
    intro t m m' Lc Lm e1 e2 e3 hA hG
    obtain ⟨m, rfl⟩ : ∃ q, m = q + 1 := ⟨m - 1, by omega⟩
    obtain ⟨m', rfl⟩ : ∃ q, m' = q + 1 := ⟨m' - 1, by omega⟩
    refine ⟨Lc, Lm, ?_, ?_, fun i _ => ⟨rfl, rfl⟩, fun t' f' h2 h3 => hG t' f' (by omega) h3⟩
    · unfold f_X0_weighFrom_3
      rw [if_pos (nI_lt (by omega) (by omega))]
    · unfold f_X11_escort_101 f_X11_escort_150
      rw [if_pos (nI_lt (by omega) (by omega)), bndE]
  | succ k ih =>
    intro t m m' Lc Lm e1 e2 e3 hA hG
    obtain ⟨m, rfl⟩ : ∃ q, m = q + 1 := ⟨m - 1, by omega⟩
    obtain ⟨m', rfl⟩ : ∃ q, m' = q + 1 := ⟨m' - 1, by omega⟩
    have h12 : ¬ (12 : Int32) < nI t := fun z => by have := (nI_ltI (a := 12) (by decide) (by omega)).mp z; omega
    obtain ⟨Lc1, Lm1, z1, z2, z3, z4⟩ := row_in hn h1 hP hQ hR hP' hQ' hR' hb hT hF (show t ≤ T by omega) (k3 := f_X0_weighFrom_3 (nI b) (nI T) (nI F) m) (k101 := f_X11_escort_101 (nI T) (nI F) (nI b) k94 m') (k94 := k94) (F + 1) 0 FU FU Lc Lm (by omega) (by unfold FU; omega) (by unfold FU; omega) hA (fun t' f' a c => hG t' f' (by omega) c)
    obtain ⟨Lc2, Lm2, y1, y2, y3, y4⟩ := ih (t + 1) m m' Lc1 Lm1 (by omega) (by omega) (by omega) (fun t' f' a c => by rw [(z3 _ (by omega)).1, (z3 _ (by omega)).2]; exact hA t' f' a c) z4
    refine ⟨Lc2, Lm2, ?_, ?_, fun i hi => ⟨(y3 i hi).1.trans (z3 i hi).1, (y3 i hi).2.trans (z3 i hi).2⟩, y4⟩
    · unfold f_X0_weighFrom_3
      rw [if_neg (nI_nlt (by omega) (by omega)), if_neg h12]
      exact z1.trans y1
    · unfold f_X11_escort_101
      rw [if_neg (nI_nlt (by omega) (by omega))]
      exact z2.trans y2
/-- all rows from r on -/
def Rw (P Q R : Nat → Int32) (n T F r : Nat) (Lc Lm : Nat → Int64) : Prop := (∀ b, r ≤ b → b < n → ∀ t f, t ≤ T → f ≤ F → Gd P Q R b t f Lc Lm) ∧ ∀ t f, t ≤ T → f ≤ F → Lc (91 * n + 7 * t + f) = Lm (91 * n + 7 * t + f) ∧ Lc (91 * n + 7 * t + f) = if t = 0 ∧ f = 0 then 0 else 1000000000000
theorem rows (hn : n ≤ 6) (h1 : σ.1 1003 = nI n) (hP : σ.2.1 65 = P) (hQ : σ.2.1 66 = Q) (hR : σ.2.1 67 = R) (hP' : τ.2.1 57 = P) (hQ' : τ.2.1 58 = Q) (hR' : τ.2.1 59 = R) {T F : Nat} (hT : T ≤ 12) (hF : F ≤ 6) :
    ∀ (r m m' : Nat) (Lc Lm : Nat → Int64), r ≤ n → r < m → r < m' → Rw P Q R n T F r Lc Lm → ∃ Lc' Lm', f_X0_give_32 (nI T) (nI F) m (nI r - 1) (stL σ 68 Lc) = f_X0_give_49 (nI T) (nI F) (stL σ 68 Lc') ∧ f_X11_escort_94 (nI T) (nI F) m' (nI r - 1) (stL τ 60 Lm) = f_X11_escort_156 (nI T) (nI F) (stL τ 60 Lm') ∧ Rw P Q R n T F 0 Lc' Lm' := by
  intro r
  induction r with
  | zero =>
    intro m m' Lc Lm e1 e2 e3 hW
    obtain ⟨m, rfl⟩ : ∃ q, m = q + 1 := ⟨m - 1, by omega⟩
    obtain ⟨m', rfl⟩ : ∃ q, m' = q + 1 := ⟨m' - 1, by omega⟩
    refine ⟨Lc, Lm, ?_, ?_, hW⟩
    · unfold f_X0_give_32
      rw [if_pos (by decide)]
    · unfold f_X11_escort_94
      rw [if_pos (by decide)]
  | succ r ih =>
    intro m m' Lc Lm e1 e2 e3 hW
    obtain ⟨m, rfl⟩ : ∃ q, m = q + 1 := ⟨m - 1, by omega⟩
    obtain ⟨m', rfl⟩ : ∃ q, m' = q + 1 := ⟨m' - 1, by omega⟩
    have hA : ∀ t' f', t' ≤ T → f' ≤ F → Lc (91 * (r + 1) + 7 * t' + f') = Lm (91 * (r + 1) + 7 * t' + f') := by
      intro t' f' a c
      by_cases d : r + 1 = n
      · rw [d]; exact (hW.2 t' f' a c).1
      · exact (hW.1 (r + 1) (by omega) (by omega) t' f' a c).1
    obtain ⟨Lc1, Lm1, z1, z2, z3, z4⟩ := row_out hn h1 hP hQ hR hP' hQ' hR' (show r < n by omega) hT hF (k94 := f_X11_escort_94 (nI T) (nI F) m') (T + 1) 0 FU FU Lc Lm (by omega) (by unfold FU; omega) (by unfold FU; omega) hA (fun t' f' a => absurd a (by omega))
    have z1 : f_X0_weighFrom (nI r) (nI T) (nI F) (stL σ 68 Lc) = _ := z1
    obtain ⟨Lc2, Lm2, y1, y2, y3⟩ := ih m m' Lc1 Lm1 (by omega) (by omega) (by omega) ⟨fun b hb1 hb2 t f ht hf => by
        by_cases d : b = r
        · subst d; exact z4 t f ht hf
        · exact (hW.1 b (by omega) hb2 t f ht hf).same (z3 _ (by omega)).1 (z3 _ (by omega)).2 (fun i hi => (z3 i (by omega)).1), fun t f ht hf => by
        rw [(z3 _ (by omega)).1, (z3 _ (by omega)).2]; exact hW.2 t f ht hf⟩
    refine ⟨Lc2, Lm2, ?_, ?_, y3⟩
    · unfold f_X0_give_32
      rw [nI_pred, if_neg (nI_pos (by omega)), z1, bS, bndE, m1s]
      exact y1
    · unfold f_X11_escort_94
      rw [nI_pred, if_neg (nI_pos (by omega))]
      rw [m1s] at z2
      exact z2.trans y2
theorem Rw.fin {T F : Nat} {Lc Lm : Nat → Int64} (hT : T ≤ 12) (hF : F ≤ 6) (hP : Bn 9999 P) (hQ : Bn 999 Q) (hR : Bn 99 R) (h : Rw P Q R n T F 0 Lc Lm) : ∀ (k b : Nat), b + k + 1 = n → ∀ t f, t ≤ T → f ≤ F → (Lc (91 * b + 7 * t + f)).toInt < 1000000000000 := by
  intro k
  induction k with
  | zero =>
    intro b hb t f ht hf
    have hg := (h.1 b (by omega) (by omega) t f ht hf).2.2 t f ⟨Nat.le_refl _, Nat.le_refl _⟩
    have e : Lc (91 * (b + 1) + 7 * (t - t) + (f - f)) = 0 := by
      rw [Nat.sub_self, Nat.sub_self, show b + 1 = n by omega, (h.2 0 0 (by omega) (by omega)).2, if_pos ⟨rfl, rfl⟩]
    simp only [e] at hg
    have h2 := hg (by decide)
    rw [Int64.zero_add] at h2
    have h3 := wV_lt (b := b) (t := t) (f := f) hP hQ hR (by omega) (by omega)
    omega
  | succ k ih =>
    intro b hb t f ht hf
    have hg := (h.1 b (by omega) (by omega) t f ht hf).2.2 0 0 ⟨by omega, by omega⟩
    have h2 := ih (b + 1) (by omega) t f ht hf
    have h3 := hg h2
    simp only [wV_0, Nat.sub_zero, Int64.add_zero] at h3
    omega
/-! what is taken -/
theorem lfC1 {σ1 : St} {b t f : Nat} (hb : b ≤ 6) (ht : t ≤ 12) (hf : f ≤ 6) : f_X0_leastFrom (nI b) (nI t) (nI f) σ1 = some (σ1.2.2 68 (91 * b + 7 * t + f)) := by
  have := lfC (σ := σ1) (L := σ1.2.2 68) (b := b) (t := t) (f := f) hb ht hf
  rw [stL_same] at this
  exact this
theorem rlM1 {τ1 : St} {b t f : Nat} (hb : b ≤ 6) (ht : t ≤ 12) (hf : f ≤ 6) : rl tM τ1 60 (f_X11_place (nI b) (nI t) (nI f)) = some (τ1.2.2 60 (91 * b + 7 * t + f)) := by
  rw [plM, rlM_60 (by omega)]
theorem take_in (hn : n ≤ 6) (h1 : σ.1 1003 = nI n) (hP : σ.2.1 65 = P) (hQ : σ.2.1 66 = Q) (hR : σ.2.1 67 = R) (hP' : τ.2.1 57 = P) (hQ' : τ.2.1 58 = Q) (hR' : τ.2.1 59 = R) {b t f x : Nat} (hb : b < n) (ht : t ≤ 12) (hf : f ≤ 6) (hx : x ≤ t) (hL : ∀ t' f', t' ≤ t → f' ≤ f → σ.2.2 68 (91 * (b + 1) + 7 * t' + f') = τ.2.2 60 (91 * (b + 1) + 7 * t' + f')) (hA : σ.2.2 68 (91 * b + 7 * t + f) = τ.2.2 60 (91 * b + 7 * t + f)) {k12 k3 : Int32 → Option St} :
    ∀ (k y m m' : Nat), y + k = f + 1 → k < m → k < m' → (∃ y', y' ≤ f ∧ (σ.2.2 68 (91 * (b + 1) + 7 * (t - x) + (f - y'))).toInt < 1000000000000 ∧ f_X0_takeIn_21 (nI b) (nI t) (nI f) (σ.2.2 68 (91 * b + 7 * t + f)) (nI x) σ k12 m (nI y) = some (sA (sA σ 69 b (nI x)) 70 b (nI y')) ∧ f_X11_gives_12 (nI b) (nI t) (nI f) (nI x) τ k3 m' (nI y) = some (sA (sA τ 61 b (nI x)) 62 b (nI y'))) ∨ (f_X0_takeIn_21 (nI b) (nI t) (nI f) (σ.2.2 68 (91 * b + 7 * t + f)) (nI x) σ k12 m (nI y) = k12 (nI (x + 1)) ∧ f_X11_gives_12 (nI b) (nI t) (nI f) (nI x) τ k3 m' (nI y) = k3 (nI (x + 1)) ∧ ∀ y', y ≤ y' → y' ≤ f → ¬ ((σ.2.2 68 (91 * (b + 1) + 7 * (t - x) + (f - y'))).toInt < 1000000000000 ∧ σ.2.2 68 (91 * (b + 1) + 7 * (t - x) + (f - y')) + wV P Q R b x y' = σ.2.2 68 (91 * b + 7 * t + f))) := by
  intro k
  induction k with
  | zero =>
    intro y m m' e1 e2 e3
    obtain ⟨m, rfl⟩ : ∃ q, m = q + 1 := ⟨m - 1, by omega⟩
    obtain ⟨m', rfl⟩ : ∃ q, m' = q + 1 := ⟨m' - 1, by omega⟩
    refine Or.inr ⟨?_, ?_, fun y' a c => absurd c (by omega)⟩
    · unfold f_X0_takeIn_21 f_X0_takeIn_94
      rw [if_pos (nI_lt (by omega) (by omega)), bndE, nI_1]
    · unfold f_X11_gives_12 f_X11_gives_101
      rw [if_pos (nI_lt (by omega) (by omega)), bndE, nI_1]
  | succ k ih =>
    intro y m m' e1 e2 e3
    obtain ⟨m, rfl⟩ : ∃ q, m = q + 1 := ⟨m - 1, by omega⟩
    obtain ⟨m', rfl⟩ : ∃ q, m' = q + 1 := ⟨m' - 1, by omega⟩
    have a1 : nI t - nI x = nI (t - x) := pk_sub hx
    have a2 : nI f - nI y = nI (f - y) := pk_sub (by omega)
    have r1 := lfC1 (σ1 := σ) (b := b + 1) (t := t - x) (f := f - y) (by omega) (by omega) (by omega)
    have r2 := rlM1 (τ1 := τ) (b := b + 1) (t := t - x) (f := f - y) (by omega) (by omega) (by omega)
    have r3 := rlM1 (τ1 := τ) (b := b) (t := t) (f := f) (by omega) (by omega) (by omega)
    have q1 := wC (σ := σ) (P := P) (Q := Q) (R := R) (t := x) (f := y) hn h1 hP hQ hR hb
    have q2 := wM (τ := τ) (P := P) (Q := Q) (R := R) (t := x) (f := y) hP' hQ' hR' (show b < 6 by omega)
    have F : (1000000000000 : Int64).toInt = 1000000000000 := by simp only [Int64.reduceToInt]
    have go : ¬ ((σ.2.2 68 (91 * (b + 1) + 7 * (t - x) + (f - y))).toInt < 1000000000000 ∧ σ.2.2 68 (91 * (b + 1) + 7 * (t - x) + (f - y)) + wV P Q R b x y = σ.2.2 68 (91 * b + 7 * t + f)) → (∃ y', y' ≤ f ∧ (σ.2.2 68 (91 * (b + 1) + 7 * (t - x) + (f - y'))).toInt < 1000000000000 ∧ f_X0_takeIn_21 (nI b) (nI t) (nI f) (σ.2.2 68 (91 * b + 7 * t + f)) (nI x) σ k12 m (nI (y + 1)) = some (sA (sA σ 69 b (nI x)) 70 b (nI y')) ∧ f_X11_gives_12 (nI b) (nI t) (nI f) (nI x) τ k3 m' (nI (y + 1)) = some (sA (sA τ 61 b (nI x)) 62 b (nI y'))) ∨ (f_X0_takeIn_21 (nI b) (nI t) (nI f) (σ.2.2 68 (91 * b + 7 * t + f)) (nI x) σ k12 m (nI (y + 1)) = k12 (nI (x + 1)) ∧ f_X11_gives_12 (nI b) (nI t) (nI f) (nI x) τ k3 m' (nI (y + 1)) = k3 (nI (x + 1)) ∧ ∀ y', y ≤ y' → y' ≤ f → ¬ ((σ.2.2 68 (91 * (b + 1) + 7 * (t - x) + (f - y'))).toInt < 1000000000000 ∧ σ.2.2 68 (91 * (b + 1) + 7 * (t - x) + (f - y')) + wV P Q R b x y' = σ.2.2 68 (91 * b + 7 * t + f))) := by
      intro hno
      rcases ih (y + 1) m m' (by omega) (by omega) (by omega) with z | ⟨z1, z2, z3⟩
      · exact Or.inl z
      · refine Or.inr ⟨z1, z2, fun y' a c => ?_⟩
        by_cases d : y' = y
        · subst d; exact hno
        · exact z3 y' (by omega) c
    unfold f_X0_takeIn_21 f_X11_gives_12 f_X0_takeIn_88 f_X11_gives_95
    simp only [bndE]
    rw [if_neg (nI_nlt (by omega) (by omega)), if_neg (nI_nlt (by omega) (by omega)), nI_1, nI_1, a1, a2, r1, r2, bS, bS, q1, q2, bS, bS, r3, bS, ← hL (t - x) (f - y) (by omega) (by omega), ← hA, Int64.add_comm (wV P Q R b x y)]
    by_cases c1 : (1000000000000 : Int64) ≤ σ.2.2 68 (91 * (b + 1) + 7 * (t - x) + (f - y))
    · rw [if_pos c1, if_pos c1]
      rw [leL, F] at c1
      exact go (fun z => by omega)
    · rw [if_neg c1, if_neg c1]
      by_cases c2 : σ.2.2 68 (91 * (b + 1) + 7 * (t - x) + (f - y)) + wV P Q R b x y = σ.2.2 68 (91 * b + 7 * t + f)
      · rw [if_pos c2, if_pos c2]
        rw [leL, F] at c1
        refine Or.inl ⟨y, by omega, by omega, ?_, ?_⟩
        · unfold f_X0_takeIn_71
          rw [wrC_69 (by omega), bS, wrC_70 (by omega)]
          rfl
        · unfold f_X11_gives_78
          rw [wrM_61 (by omega), bS, wrM_62 (by omega)]
          rfl
      · rw [if_neg c2, if_neg c2]
        exact go (fun z => c2 z.2)
theorem take_out (hn : n ≤ 6) (h1 : σ.1 1003 = nI n) (hP : σ.2.1 65 = P) (hQ : σ.2.1 66 = Q) (hR : σ.2.1 67 = R) (hP' : τ.2.1 57 = P) (hQ' : τ.2.1 58 = Q) (hR' : τ.2.1 59 = R) {b t f : Nat} (hb : b < n) (ht : t ≤ 12) (hf : f ≤ 6) (hL : ∀ t' f', t' ≤ t → f' ≤ f → σ.2.2 68 (91 * (b + 1) + 7 * t' + f') = τ.2.2 60 (91 * (b + 1) + 7 * t' + f')) (hA : σ.2.2 68 (91 * b + 7 * t + f) = τ.2.2 60 (91 * b + 7 * t + f)) :
    ∀ (k x m m' : Nat), x + k = t + 1 → k < m → k < m' → (∃ x' y', x ≤ x' ∧ x' ≤ t ∧ y' ≤ f ∧ (σ.2.2 68 (91 * (b + 1) + 7 * (t - x') + (f - y'))).toInt < 1000000000000 ∧ σ.2.2 68 (91 * (b + 1) + 7 * (t - x') + (f - y')) + wV P Q R b x' y' = σ.2.2 68 (91 * b + 7 * t + f)) → ∃ x' y', x' ≤ t ∧ y' ≤ f ∧ (σ.2.2 68 (91 * (b + 1) + 7 * (t - x') + (f - y'))).toInt < 1000000000000 ∧ f_X0_takeIn_12 (nI b) (nI t) (nI f) (σ.2.2 68 (91 * b + 7 * t + f)) σ m (nI x) = some (sA (sA σ 69 b (nI x')) 70 b (nI y')) ∧ f_X11_gives_3 (nI b) (nI t) (nI f) τ m' (nI x) = some (sA (sA τ 61 b (nI x')) 62 b (nI y')) := by
  intro k
  induction k with
  | zero =>
    intro x m m' e1 e2 e3 hex
    obtain ⟨x', y', g1, g2, -⟩ := hex
    omega
  | succ k ih =>
    intro x m m' e1 e2 e3 hex
    obtain ⟨m, rfl⟩ : ∃ q, m = q + 1 := ⟨m - 1, by omega⟩
    obtain ⟨m', rfl⟩ : ∃ q, m' = q + 1 := ⟨m' - 1, by omega⟩
    unfold f_X0_takeIn_12 f_X11_gives_3
    rw [if_neg (nI_nlt (by omega) (by omega)), if_neg (nI_nlt (by omega) (by omega))]
    rcases take_in hn h1 hP hQ hR hP' hQ' hR' hb ht hf (show x ≤ t by omega) hL hA (k12 := f_X0_takeIn_12 (nI b) (nI t) (nI f) (σ.2.2 68 (91 * b + 7 * t + f)) σ m) (k3 := f_X11_gives_3 (nI b) (nI t) (nI f) τ m') (f + 1) 0 FU FU (by omega) (by unfold FU; omega) (by unfold FU; omega) with ⟨y', g1, g2, g3, g4⟩ | ⟨g1, g2, g3⟩
    · exact ⟨x, y', by omega, g1, g2, g3, g4⟩
    · obtain ⟨x', y', p1, p2, p3, p4, p5⟩ := hex
      have hne : x' ≠ x := by
        intro e
        subst e
        exact g3 y' (by omega) p3 ⟨p4, p5⟩
      obtain ⟨x2, y2, w1, w2, w3, w4, w5⟩ := ih (x + 1) m m' (by omega) (by omega) (by omega) ⟨x', y', by omega, p2, p3, p4, p5⟩
      exact ⟨x2, y2, w1, w2, w3, g1.trans w4, g2.trans w5⟩
end ES
