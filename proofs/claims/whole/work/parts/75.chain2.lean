/-! the chain: the longest run from each on, and following it -/
theorem sF_2 (σ : St) (k : Nat) (v w : Int32) : sF (sF σ k v) k w = sF σ k w := by
  unfold sF
  congr 1
  funext j
  show (if j = k then w else if j = k then v else σ.1 j) = _
  split <;> rfl
def updN (g : Nat → Nat) (i v : Nat) (j : Nat) : Nat := if j = i then v else g j
/-- what holds of the runs from i on -/
def Dp (c : Nat → Nat → Bool) (N : Nat) (g : Nat → Nat) (i : Nat) : Prop := ∀ j, i ≤ j → j < N → (1 ≤ g j ∧ g j ≤ N - j) ∧ (g j = 1 ∨ ∃ j', j < j' ∧ j' < N ∧ g j' + 1 = g j ∧ c j j' = true)
section CH
variable {σ τ : St} {n N : Nat} {L : List Nat} {sp s : Int32} {c : Nat → Nat → Bool}
theorem me_in (hN : N ≤ 300) (hn : n ≤ 300) (h1 : σ.1 307 = nI n) (hL : L.length = N) (hLn : ∀ a ∈ L, a < n) (hP : Rp (σ.2.1 29) L) (hQ : Rp (τ.2.1 13) L) (hc : ∀ i j, c i j = cbB (σ.2.1 25) (σ.2.1 26) (σ.2.1 24) sp (L.getD i 0) (L.getD j 0)) (hc' : ∀ i j, c i j = cbB (τ.2.1 9) (τ.2.1 10) (τ.2.1 8) sp (L.getD i 0) (L.getD j 0)) (hsp : rd tM τ 4 s = some sp) {i : Nat} (hi : i < N) {g : Nat → Nat} (hg : ∀ j, i < j → j < N → g j ≤ N - j) {mo mo' : Int32} {k7 k136 : Int32 → Int32 → St → Option (Int32 × St)} {A : Nat → Int32} (hA : ∀ j, i < j → j < N → A j = nI (g j)) :
    ∀ (k j m m' bh : Nat) (B : Nat → Int32), j + k = N → i < j → k < m → k < m' → B i = nI (bh + 1) → (∀ j', i < j' → j' < N → B j' = nI (g j')) → bh ≤ N - i - 1 → (bh = 0 ∨ ∃ j', i < j' ∧ j' < N ∧ g j' = bh ∧ c i j' = true) → ∃ (bh' : Nat) (B' : Nat → Int32), f_X5_measure_21 (nI N) sp mo (nI i) (stA σ 30 A) k7 m (nI bh) (nI j) = f_X5_measure_76 (nI N) sp mo (nI i) (nI bh') (stA σ 30 A) k7 ∧ f_X11_chain_155 s (nI N) mo' (nI i) k136 m' (nI j) (stA τ 14 B) = f_X11_chain_229 s (nI N) mo' (nI i) (stA τ 14 B') k136 ∧ B' i = nI (bh' + 1) ∧ (∀ j', j' ≠ i → B' j' = B j') ∧ bh' ≤ N - i - 1 ∧ (bh' = 0 ∨ ∃ j', i < j' ∧ j' < N ∧ g j' = bh' ∧ c i j' = true) := by
  intro k
  induction k with
  | zero =>
    intro j m m' bh B e1 e2 e3 e4 b1 b2 b3 b4
    obtain ⟨m, rfl⟩ : ∃ q, m = q + 1 := ⟨m - 1, by omega⟩
    obtain ⟨m', rfl⟩ : ∃ q, m' = q + 1 := ⟨m' - 1, by omega⟩
    refine ⟨bh, B, ?_, ?_, b1, fun _ _ => rfl, b3, b4⟩
    · unfold f_X5_measure_21
      rw [if_pos (nI_le (by omega) (by omega))]
    · unfold f_X11_chain_155
      rw [if_pos (nI_le (by omega) (by omega))]
  | succ k ih =>
    intro j m m' bh B e1 e2 e3 e4 b1 b2 b3 b4
    obtain ⟨m, rfl⟩ : ∃ q, m = q + 1 := ⟨m - 1, by omega⟩
    obtain ⟨m', rfl⟩ : ∃ q, m' = q + 1 := ⟨m' - 1, by omega⟩
    have gj := hg j e2 (by omega)
    have li : L.getD i 0 < n := hLn _ (getD_mem (by omega))
    have lj : L.getD j 0 < n := hLn _ (getD_mem (by omega))
    have r1 : rd tC (stA σ 30 A) 30 (nI j) = some (nI (g j)) := by rw [rdC_30 (by omega), stA_at, hA j e2 (by omega)]
    have r2 : rd tC (stA σ 30 A) 29 (nI i) = some (nI (L.getD i 0)) := by rw [rdC_29 (by omega)]; exact congrArg some (hP i (by omega))
    have r3 : rd tC (stA σ 30 A) 29 (nI j) = some (nI (L.getD j 0)) := by rw [rdC_29 (by omega)]; exact congrArg some (hP j (by omega))
    have r4 : f_X5_canBothBe (nI (L.getD i 0)) (nI (L.getD j 0)) sp (stA σ 30 A) = some (if c i j = true then 1 else 0) := by rw [hc]; exact cbC (σ := stA σ 30 A) hn h1 li lj sp
    have s1 : rd tM (stA τ 14 B) 14 (nI j) = some (nI (g j)) := by rw [rdM_14 (by omega), stA_at, b2 j e2 (by omega)]
    have s2 : rd tM (stA τ 14 B) 14 (nI i) = some (nI (bh + 1)) := by rw [rdM_14 (by omega), stA_at, b1]
    have s3 : rd tM (stA τ 14 B) 13 (nI i) = some (nI (L.getD i 0)) := by rw [rdM_13 (by omega)]; exact congrArg some (hQ i (by omega))
    have s4 : rd tM (stA τ 14 B) 13 (nI j) = some (nI (L.getD j 0)) := by rw [rdM_13 (by omega)]; exact congrArg some (hQ j (by omega))
    have s5 : rd tM (stA τ 14 B) 4 s = some sp := hsp
    have s6 : f_X11_canBoth (nI (L.getD i 0)) (nI (L.getD j 0)) sp (stA τ 14 B) = some (if c i j = true then 1 else 0) := by rw [hc']; exact cbM (τ := stA τ 14 B) (by omega) (by omega) sp
    unfold f_X5_measure_21 f_X11_chain_155 f_X5_measure_70 f_X11_chain_223
    simp only [bndE]
    rw [if_neg (nI_ge (by omega) (by omega)), if_neg (nI_ge (by omega) (by omega)), r1, bS, r2, bS, r3, bS, r4, bS, bS, s1, bS, s2, bS, s3, bS, s4, bS, s5, bS, s6, bS, bS, nI_1, nI_1]
    by_cases d1 : g j ≤ bh
    · rw [if_pos (nI_le d1 (by omega)), if_pos (nI_le (by omega) (by omega))]
      exact ih (j + 1) m m' bh B (by omega) (by omega) (by omega) (by omega) b1 b2 b3 b4
    · rw [if_neg (nI_ge (by omega) (by omega)), if_neg (nI_ge (by omega) (by omega))]
      by_cases d2 : c i j = true
      · rw [if_pos d2, if_neg (by decide), if_neg (by decide), wrM_14 (by omega), bS, sA_st, stA_at, stA_2]
        obtain ⟨bh', B', z1, z2, z3, z4, z5, z6⟩ := ih (j + 1) m m' (g j) (upd B i (nI (g j + 1))) (by omega) (by omega) (by omega) (by omega) (upd_at _ _ _) (fun j' q1 q2 => by rw [upd_ne _ _ (by omega)]; exact b2 j' q1 q2) (by omega) (Or.inr ⟨j, e2, by omega, rfl, d2⟩)
        exact ⟨bh', B', z1, z2, z3, fun j' hj' => by rw [z4 j' hj']; exact upd_ne _ _ hj', z5, z6⟩
      · rw [if_neg d2, if_pos rfl, if_pos rfl]
        exact ih (j + 1) m m' bh B (by omega) (by omega) (by omega) (by omega) b1 b2 b3 b4
theorem me_out (hN : N ≤ 300) (hn : n ≤ 300) (h1 : σ.1 307 = nI n) (hL : L.length = N) (hLn : ∀ a ∈ L, a < n) (hP : Rp (σ.2.1 29) L) (hQ : Rp (τ.2.1 13) L) (hc : ∀ i j, c i j = cbB (σ.2.1 25) (σ.2.1 26) (σ.2.1 24) sp (L.getD i 0) (L.getD j 0)) (hc' : ∀ i j, c i j = cbB (τ.2.1 9) (τ.2.1 10) (τ.2.1 8) sp (L.getD i 0) (L.getD j 0)) (hsp : rd tM τ 4 s = some sp) :
    ∀ (r m m' mo : Nat) (A B : Nat → Int32) (g : Nat → Nat), r ≤ N → r < m → r < m' → (∀ j, r ≤ j → j < N → A j = nI (g j) ∧ B j = nI (g j)) → Dp c N g r → (mo = 0 ∧ r = N ∨ ∃ j, r ≤ j ∧ j < N ∧ g j = mo) → (∀ j, r ≤ j → j < N → g j ≤ mo) → ∃ (mo' : Nat) (A' B' : Nat → Int32) (g' : Nat → Nat), f_X5_measure_7 (nI N) sp m (nI mo) (nI r - 1) (stA σ 30 A) = some (nI mo', stA σ 30 A') ∧ f_X11_chain_136 s (nI N) m' (nI mo) (nI r - 1) (stA τ 14 B) = f_X11_chain_261 s (nI N) (nI mo') (stA τ 14 B') ∧ (∀ j, j < N → A' j = nI (g' j) ∧ B' j = nI (g' j)) ∧ Dp c N g' 0 ∧ (mo' = 0 ∧ N = 0 ∨ ∃ j, j < N ∧ g' j = mo') ∧ ∀ j, j < N → g' j ≤ mo' := by
  intro r
  induction r with
  | zero =>
    intro m m' mo A B g e1 e2 e3 hAB hD h4 h5
    obtain ⟨m, rfl⟩ : ∃ q, m = q + 1 := ⟨m - 1, by omega⟩
    obtain ⟨m', rfl⟩ : ∃ q, m' = q + 1 := ⟨m' - 1, by omega⟩
    refine ⟨mo, A, B, g, ?_, ?_, fun j hj => hAB j (by omega) hj, hD, ?_, fun j hj => h5 j (by omega) hj⟩
    · unfold f_X5_measure_7
      rw [if_pos (by decide)]
    · unfold f_X11_chain_136
      rw [if_pos (by decide)]
    · rcases h4 with ⟨a, b⟩ | ⟨j, -, b, d⟩
      · exact Or.inl ⟨a, b.symm⟩
      · exact Or.inr ⟨j, b, d⟩
  | succ i ih =>
    intro m m' mo A B g e1 e2 e3 hAB hD h4 h5
    obtain ⟨m, rfl⟩ : ∃ q, m = q + 1 := ⟨m - 1, by omega⟩
    obtain ⟨m', rfl⟩ : ∃ q, m' = q + 1 := ⟨m' - 1, by omega⟩
    have hmo : mo ≤ N := by
      rcases h4 with ⟨a, -⟩ | ⟨j, a, b, d⟩
      · omega
      · have := (hD j a b).1.2; omega
    obtain ⟨bh, B1, z1, z2, z3, z4, z5, z6⟩ := me_in hN hn h1 hL hLn hP hQ hc hc' hsp (show i < N by omega) (g := g) (fun j q1 q2 => (hD j (by omega) q2).1.2) (mo := nI mo) (mo' := nI mo) (k7 := f_X5_measure_7 (nI N) sp m) (k136 := f_X11_chain_136 s (nI N) m') (A := A) (fun j q1 q2 => (hAB j (by omega) q2).1) (N - (i + 1)) (i + 1) FU FU 0 (upd B i 1) (by omega) (by omega) (by unfold FU; omega) (by unfold FU; omega) (upd_at _ _ _) (fun j q1 q2 => by rw [upd_ne _ _ (by omega)]; exact (hAB j (by omega) q2).2) (by omega) (Or.inl rfl)
    have gi : ∀ j, j ≠ i → updN g i (bh + 1) j = g j := fun j hj => if_neg hj
    have gs : updN g i (bh + 1) i = bh + 1 := if_pos rfl
    obtain ⟨mo', A', B', g', y1, y2, y3, y4, y5, y6⟩ := ih m m' (max mo (bh + 1)) (upd A i (nI (bh + 1))) B1 (updN g i (bh + 1)) (by omega) (by omega) (by omega) (fun j q1 q2 => by
        by_cases d : j = i
        · subst d; rw [upd_at, gs]; exact ⟨rfl, z3⟩
        · rw [upd_ne _ _ d, gi j d, z4 j d, upd_ne _ _ d]; exact hAB j (by omega) q2) (fun j q1 q2 => by
        by_cases d : j = i
        · subst d
          rw [gs]
          refine ⟨by omega, ?_⟩
          rcases z6 with w | ⟨j', w1, w2, w3, w4⟩
          · exact Or.inl (by omega)
          · exact Or.inr ⟨j', w1, w2, by rw [gi j' (by omega), w3], w4⟩
        · rw [gi j d]
          obtain ⟨p1, p2⟩ := hD j (by omega) q2
          refine ⟨p1, ?_⟩
          rcases p2 with w | ⟨j', w1, w2, w3, w4⟩
          · exact Or.inl w
          · exact Or.inr ⟨j', w1, w2, by rw [gi j' (by omega)]; exact w3, w4⟩) (by
        refine Or.inr ?_
        by_cases d : mo ≤ bh + 1
        · exact ⟨i, Nat.le_refl _, by omega, by rw [gs]; omega⟩
        · rcases h4 with ⟨a, -⟩ | ⟨j, a, b, e⟩
          · omega
          · exact ⟨j, by omega, b, by rw [gi j (by omega), e]; omega⟩) (fun j q1 q2 => by
        by_cases d : j = i
        · subst d; rw [gs]; omega
        · rw [gi j d]; have := h5 j (by omega) q2; omega)
    refine ⟨mo', A', B', g', ?_, ?_, y3, y4, y5, y6⟩
    · unfold f_X5_measure_7
      rw [nI_pred, if_neg (nI_pos (by omega)), bndE, nI_1]
      rw [show f_X5_measure_21 (nI N) sp (nI mo) (nI i) (stA σ 30 A) (f_X5_measure_7 (nI N) sp m) FU 0 (nI (i + 1)) = _ from z1]
      unfold f_X5_measure_76
      rw [nI_1, wrC_30 (by omega), bS, sA_st, stA_at, stA_2, rdC_30 (by omega), bS, stA_at, upd_at, bndE, bndE, m1s]
      have em : f_J9_max_7cf53 (nI mo) (nI (bh + 1)) = nI (max mo (bh + 1)) := by
        unfold f_J9_max_7cf53
        by_cases d : mo < bh + 1
        · rw [if_pos (nI_lt d (by omega)), show max mo (bh + 1) = bh + 1 by omega]
        · rw [if_neg (nI_nlt (by omega) (by omega)), show max mo (bh + 1) = mo by omega]
      rw [em]
      exact y1
    · unfold f_X11_chain_136
      rw [nI_pred, if_neg (nI_pos (by omega)), wrM_14 (by omega), bS, sA_st, stA_at, stA_2, bndE, nI_1, z2]
      unfold f_X11_chain_229 f_X11_chain_253
      rw [rdM_14 (by omega), bS, stA_at, z3, bS, bndE, bndE, m1s]
      by_cases d : bh + 1 ≤ mo
      · rw [if_pos (nI_le d (by omega))]
        rw [show max mo (bh + 1) = mo by omega] at y2
        exact y2
      · rw [if_neg (nI_ge (by omega) (by omega))]
        rw [show max mo (bh + 1) = bh + 1 by omega] at y2
        exact y2
theorem fo_loop (hN : N ≤ 300) (hn : n ≤ 300) (h1 : σ.1 307 = nI n) (hL : L.length = N) (hLn : ∀ a ∈ L, a < n) (hP : Rp (σ.2.1 29) L) (hQ : Rp (τ.2.1 13) L) (hc : ∀ i j, c i j = cbB (σ.2.1 25) (σ.2.1 26) (σ.2.1 24) sp (L.getD i 0) (L.getD j 0)) (hc' : ∀ i j, c i j = cbB (τ.2.1 9) (τ.2.1 10) (τ.2.1 8) sp (L.getD i 0) (L.getD j 0)) (hsp : rd tM τ 4 s = some sp) {g : Nat → Nat} {mo : Nat} (hg : ∀ j, j < N → σ.2.1 30 j = nI (g j) ∧ τ.2.1 14 j = nI (g j)) (hD : Dp c N g 0) (hmo : mo ≤ N) :
    ∀ (k i m m' li la : Nat) (x5 : Int32) (Cc Cm : Nat → Int32), i + k = N → k < m → k < m' → li ≤ mo → (∀ q, q < li → Cc q = Cm q) → (li = 0 ∧ x5 = -1 ∨ 0 < li ∧ la < i ∧ x5 = nI la ∧ Cc (li - 1) = nI (L.getD la 0)) → (li < mo → ∃ j, i ≤ j ∧ j < N ∧ g j = mo - li ∧ (li = 0 ∨ c la j = true)) → ∃ Cc' Cm' : Nat → Int32, f_X5_follow_8 (nI N) sp (nI mo) m (nI i) (sF (stA σ 31 Cc) 311 (nI li)) = some (sF (stA σ 31 Cc') 311 (nI mo)) ∧ f_X11_chain_277 s (nI N) (nI mo) m' x5 (nI (mo - li)) (nI i) (stA τ 12 Cm) = some (nI mo, stA τ 12 Cm') ∧ ∀ q, q < mo → Cc' q = Cm' q := by
  intro k
  induction k with
  | zero =>
    intro i m m' li la x5 Cc Cm e1 e2 e3 hl hq hx hw
    obtain ⟨m, rfl⟩ : ∃ q, m = q + 1 := ⟨m - 1, by omega⟩
    obtain ⟨m', rfl⟩ : ∃ q, m' = q + 1 := ⟨m' - 1, by omega⟩
    have : li = mo := by
      by_cases d : li < mo
      · obtain ⟨j, a, b, -⟩ := hw d; omega
      · omega
    subst this
    refine ⟨Cc, Cm, ?_, ?_, hq⟩
    · unfold f_X5_follow_8
      rw [if_pos (nI_le (by omega) (by omega))]
    · unfold f_X11_chain_277
      rw [if_pos (nI_le (by omega) (by omega))]
  | succ k ih =>
    intro i m m' li la x5 Cc Cm e1 e2 e3 hl hq hx hw
    obtain ⟨m, rfl⟩ : ∃ q, m = q + 1 := ⟨m - 1, by omega⟩
    obtain ⟨m', rfl⟩ : ∃ q, m' = q + 1 := ⟨m' - 1, by omega⟩
    have g311 : gF (sF (stA σ 31 Cc) 311 (nI li)) 311 = nI li := rfl
    unfold f_X5_follow_8 f_X11_chain_277
    rw [if_neg (nI_ge (by omega) (by omega)), if_neg (nI_ge (by omega) (by omega)), g311]
    by_cases d : li = mo
    · subst d
      rw [if_pos (nI_le (Nat.le_refl _) (by omega)), Nat.sub_self, if_pos (show nI 0 ≤ 0 by decide)]
      exact ⟨Cc, Cm, rfl, rfl, hq⟩
    · have gi := hg i (by omega)
      have gb := (hD i (by omega) (by omega)).1
      have r1 : rd tC (sF (stA σ 31 Cc) 311 (nI li)) 30 (nI i) = some (nI (g i)) := by rw [rdC_30 (by omega)]; exact congrArg some gi.1
      have r2 : rd tC (sF (stA σ 31 Cc) 311 (nI li)) 29 (nI i) = some (nI (L.getD i 0)) := by rw [rdC_29 (by omega)]; exact congrArg some (hP i (by omega))
      have s1 : rd tM (stA τ 12 Cm) 14 (nI i) = some (nI (g i)) := by rw [rdM_14 (by omega)]; exact congrArg some gi.2
      have s2 : rd tM (stA τ 12 Cm) 13 (nI i) = some (nI (L.getD i 0)) := by rw [rdM_13 (by omega)]; exact congrArg some (hQ i (by omega))
      have s3 : rd tM (stA τ 12 Cm) 4 s = some sp := hsp
      have lI : L.getD i 0 < n := hLn _ (getD_mem (by omega))
      have sub1 : nI mo - nI li = nI (mo - li) := pk_sub hl
      have sub2 : nI mo - nI (mo - li) = nI li := by rw [pk_sub (by omega)]; congr 1; omega
      rw [if_neg (nI_ge (by omega) (by omega)), if_neg (nI_nle (by omega) (by omega)), r1, bS, s1, bS, sub1]
      have skip : (¬ (g i = mo - li ∧ (li = 0 ∨ c la i = true))) → ∃ Cc' Cm' : Nat → Int32, f_X5_follow_97 (nI N) sp (nI mo) (nI i) (sF (stA σ 31 Cc) 311 (nI li)) (f_X5_follow_8 (nI N) sp (nI mo) m) = some (sF (stA σ 31 Cc') 311 (nI mo)) ∧ f_X11_chain_359 s (nI N) (nI mo) x5 (nI (mo - li)) (nI i) (stA τ 12 Cm) (f_X11_chain_277 s (nI N) (nI mo) m') = some (nI mo, stA τ 12 Cm') ∧ ∀ q, q < mo → Cc' q = Cm' q := by
        intro hno
        unfold f_X5_follow_97 f_X11_chain_359
        rw [bndE, bndE, nI_1]
        refine ih (i + 1) m m' li la x5 Cc Cm (by omega) (by omega) (by omega) hl hq (hx.elim Or.inl (fun z => Or.inr ⟨z.1, by omega, z.2.2⟩)) (fun h => ?_)
        obtain ⟨j, a, b, p, q⟩ := hw h
        refine ⟨j, ?_, b, p, q⟩
        by_cases w : j = i
        · subst w; exact absurd ⟨p, q⟩ hno
        · omega
      have take : g i = mo - li → ∃ Cc' Cm' : Nat → Int32, f_X5_follow_71 (nI N) sp (nI mo) (nI i) (sF (stA σ 31 Cc) 311 (nI li)) (f_X5_follow_8 (nI N) sp (nI mo) m) = some (sF (stA σ 31 Cc') 311 (nI mo)) ∧ f_X11_chain_335 s (nI N) (nI mo) (nI (mo - li)) (nI i) (stA τ 12 Cm) (f_X11_chain_277 s (nI N) (nI mo) m') = some (nI mo, stA τ 12 Cm') ∧ ∀ q, q < mo → Cc' q = Cm' q := by
        intro hgi
        unfold f_X5_follow_71 f_X11_chain_335 f_X5_follow_97 f_X11_chain_359
        simp only [bndE]
        have st1 : sF (sA (sF (stA σ 31 Cc) 311 (nI li)) 31 li (nI (L.getD i 0))) 311 (nI (li + 1)) = sF (stA σ 31 (upd Cc li (nI (L.getD i 0)))) 311 (nI (li + 1)) := by
          rw [show sA (sF (stA σ 31 Cc) 311 (nI li)) 31 li (nI (L.getD i 0)) = sF (sA (stA σ 31 Cc) 31 li (nI (L.getD i 0))) 311 (nI li) from rfl, sF_2, sA_st, stA_at, stA_2]
        have g2 : gF (sA (sF (stA σ 31 Cc) 311 (nI li)) 31 li (nI (L.getD i 0))) 311 = nI li := rfl
        have st2 : sA (stA τ 12 Cm) 12 li (nI (L.getD i 0)) = stA τ 12 (upd Cm li (nI (L.getD i 0))) := by rw [sA_st, stA_at, stA_2]
        rw [r2, bS, g311, wrC_31 (by omega), bS, s2, bS, sub2, wrM_12 (by omega), bS, nI_1, g2, nI_1, st1, st2, nIp _ (by omega), show mo - li - 1 = mo - (li + 1) by omega]
        refine ih (i + 1) m m' (li + 1) i (nI i) _ _ (by omega) (by omega) (by omega) (by omega) (fun q hq' => ?_) (Or.inr ⟨by omega, by omega, rfl, upd_at _ _ _⟩) (fun h => ?_)
        · by_cases w : q = li
          · subst w; rw [upd_at, upd_at]
          · rw [upd_ne _ _ w, upd_ne _ _ w]; exact hq q (by omega)
        · rcases (hD i (by omega) (by omega)).2 with w | ⟨j', w1, w2, w3, w4⟩
          · omega
          · exact ⟨j', by omega, w2, by omega, Or.inr w4⟩
      have gE : ∀ a b : Nat, a ≤ 300 → b ≤ 300 → (nI a = nI b) = (a = b) := fun a b ha hb => nI_eqE (by omega) (by omega)
      by_cases d1 : g i = mo - li
      · rw [if_pos (show nI (g i) = nI (mo - li) by rw [d1]), if_pos (show nI (g i) = nI (mo - li) by rw [d1])]
        rcases hx with ⟨x1, x2⟩ | ⟨x1, x2, x3, x4⟩
        · rw [if_pos (show nI li = 0 by rw [x1]; rfl), if_pos (show x5 < 0 by rw [x2]; decide)]
          exact take d1
        · have la1 : L.getD la 0 < n := hLn _ (getD_mem (by omega))
          have r3 : rd tC (sF (stA σ 31 Cc) 311 (nI li)) 31 (nI li - 1) = some (nI (L.getD la 0)) := by
            rw [nIs li x1, rdC_31 (by omega)]
            show some ((stA σ 31 Cc).2.1 31 (li - 1)) = _
            rw [stA_at, x4]
          have r4 : f_X5_canBothBe (nI (L.getD la 0)) (nI (L.getD i 0)) sp (sF (stA σ 31 Cc) 311 (nI li)) = some (if c la i = true then 1 else 0) := by rw [hc]; exact cbC (σ := sF (stA σ 31 Cc) 311 (nI li)) hn h1 la1 lI sp
          have s4 : rd tM (stA τ 12 Cm) 13 x5 = some (nI (L.getD la 0)) := by rw [x3, rdM_13 (by omega)]; exact congrArg some (hQ la (by omega))
          have s5 : f_X11_canBoth (nI (L.getD la 0)) (nI (L.getD i 0)) sp (stA τ 12 Cm) = some (if c la i = true then 1 else 0) := by rw [hc']; exact cbM (τ := stA τ 12 Cm) (by omega) (by omega) sp
          rw [if_neg (show ¬ nI li = 0 from nI_ne0 x1 (by omega)), if_neg (show ¬ x5 < 0 by rw [x3]; exact nI_pos (by omega)), r3, bS, r2, bS, r4, bS, s4, bS, s2, bS, s3, bS, s5, bS]
          by_cases d2 : c la i = true
          · rw [if_pos d2, if_neg (by decide), if_neg (by decide)]
            exact take d1
          · rw [if_neg d2, if_pos rfl, if_pos rfl]
            exact skip (fun z => z.2.elim (fun w => by omega) d2)
      · have d1' : ¬ nI (g i) = nI (mo - li) := by rw [gE _ _ (by omega) (by omega)]; exact d1
        rw [if_neg d1', if_neg d1']
        exact skip (fun z => d1 z.1)
end CH
theorem o_chain (x k : Int32) {σ τ : St} (h : M_rep σ τ) (hs : M_shp σ τ) (hh : M_chn σ τ) : Op (f_X10_chain x k σ) (f_X11_chain x k τ) M_chn ([311], [29, 30, 31], []) ([14], [12, 13, 14], []) σ τ := by
  obtain ⟨n, hn, h1, h2, ⟨a1, a2, a3, a4, a5, a6⟩, hR, hB⟩ := id h
  obtain ⟨ns, hs1, hs2, hs3, b1, b2, b3, b4⟩ := id hs
  have e2 := nI_toInt (show ns < 2 ^ 31 by omega)
  by_cases hg : (0 ≤ x.toInt ∧ x.toInt < ns) ∧ (0 ≤ k.toInt ∧ k.toInt < 9000)
  · obtain ⟨g1, g2⟩ := hg
    obtain ⟨t, ht, rfl⟩ := nI_btw (n := 39) g1.1 (by omega)
    have hsl : (srt (kyR (σ.2.1 24)) n).length = n := srt_len _ _
    obtain ⟨P, p1, p2⟩ := pickC hn h1 hR (nI t) k n 0 FU (σ.2.1 29) (by omega) (by unfold FU; omega) (fun i hi => absurd hi (by simp))
    obtain ⟨Q, q1, q2⟩ := pickM (τ := τ) hn h2 (nI t) k n 0 FU (τ.2.1 13) (by omega) (by unfold FU; omega) (fun i hi => absurd hi (by simp [srt]))
    rw [← a2, ← a3, ← a6] at q1 q2
    rw [stA_same] at p1 q1
    have p1 : f_X5_pick (nI t) k σ = some (nI ((srt (kyR (σ.2.1 24)) n).filter (pC (σ.2.1 23) (σ.2.1 27) (nI t) k)).length, stA σ 29 P) := p1
    have q1 : f_X11_chain_22 (nI t) k FU 0 0 τ = f_X11_chain_128 (nI t) (nI ((srt (kyR (σ.2.1 24)) n).filter (pC (σ.2.1 23) (σ.2.1 27) (nI t) k)).length) (stA τ 13 Q) := q1
    have hLn : ∀ a ∈ (srt (kyR (σ.2.1 24)) n).filter (pC (σ.2.1 23) (σ.2.1 27) (nI t) k), a < n := fun a ha => (srt_mem _ _ _).mp (List.mem_filter.mp ha).1
    have hNn : ((srt (kyR (σ.2.1 24)) n).filter (pC (σ.2.1 23) (σ.2.1 27) (nI t) k)).length ≤ n := by
      have h5 := List.length_filter_le (pC (σ.2.1 23) (σ.2.1 27) (nI t) k) (srt (kyR (σ.2.1 24)) n)
      rw [srt_len] at h5
      exact h5
    generalize (srt (kyR (σ.2.1 24)) n).filter (pC (σ.2.1 23) (σ.2.1 27) (nI t) k) = L at *
    have hsp : rd tM (stA τ 13 Q) 4 (nI t) = some (σ.2.1 20 t) := by rw [rdM_4 (by omega), b3]; rfl
    have rsp : rd tC σ 20 (nI t) = some (σ.2.1 20 t) := rdC_20 (by omega)
    generalize σ.2.1 20 t = sp at *
    obtain ⟨mo, A, B, g, m1, m2, m3, m4, m5, m6⟩ := me_out (σ := stA σ 29 P) (τ := stA τ 13 Q) (sp := sp) (s := nI t) (c := fun i j => cbB (σ.2.1 25) (σ.2.1 26) (σ.2.1 24) sp (L.getD i 0) (L.getD j 0)) (N := L.length) (L := L) (by omega) hn h1 rfl hLn (by rw [stA_at]; exact p2) (by rw [stA_at]; exact q2) (fun _ _ => rfl) (fun i j => by show _ = cbB (τ.2.1 9) (τ.2.1 10) (τ.2.1 8) _ _ _; rw [← a3, ← a4, ← a5]) hsp L.length FU FU 0 ((stA σ 29 P).2.1 30) ((stA τ 13 Q).2.1 14) (fun _ => 0) (Nat.le_refl _) (by unfold FU; omega) (by unfold FU; omega) (fun j c1 c2 => absurd c2 (by omega)) (fun j c1 c2 => absurd c2 (by omega)) (Or.inl ⟨rfl, rfl⟩) (fun j c1 c2 => absurd c2 (by omega))
    rw [stA_same] at m1 m2
    have hmo : mo ≤ L.length := by
      rcases m5 with ⟨w, -⟩ | ⟨j, w1, w2⟩
      · omega
      · have := (m4 j (by omega) w1).1.2; omega
    obtain ⟨Cc, Cm, f1, f2, f3⟩ := fo_loop (σ := stA (stA σ 29 P) 30 A) (τ := sF (stA (stA τ 13 Q) 14 B) 14 (nI mo)) (sp := sp) (s := nI t) (c := fun i j => cbB (σ.2.1 25) (σ.2.1 26) (σ.2.1 24) sp (L.getD i 0) (L.getD j 0)) (N := L.length) (L := L) (by omega) hn h1 rfl hLn (show Rp ((stA σ 29 P).2.1 29) L by rw [stA_at]; exact p2) (show Rp ((stA τ 13 Q).2.1 13) L by rw [stA_at]; exact q2) (fun _ _ => rfl) (fun i j => by show _ = cbB (τ.2.1 9) (τ.2.1 10) (τ.2.1 8) _ _ _; rw [← a3, ← a4, ← a5]) hsp (g := g) (mo := mo) (fun j hj => ⟨by rw [stA_at]; exact (m3 j hj).1, by show (stA (stA τ 13 Q) 14 B).2.1 14 j = _; rw [stA_at]; exact (m3 j hj).2⟩) m4 hmo L.length 0 FU FU 0 0 (-1) (σ.2.1 31) (τ.2.1 12) (by omega) (by unfold FU; omega) (by unfold FU; omega) (by omega) (fun q hq => absurd hq (by omega)) (Or.inl ⟨rfl, rfl⟩) (fun hlt => by
      rcases m5 with ⟨w, -⟩ | ⟨j, w1, w2⟩
      · omega
      · exact ⟨j, by omega, w1, by omega, Or.inl rfl⟩)
    have i1 : ¬ f_X7_has (nI t) σ = 0 := by rw [ship0]; unfold gF; rw [hs2, e2]; exact not_not_intro g1
    have i2 : ¬ f_X11_isShip (nI t) τ = 0 := by rw [mship0]; unfold gF; rw [hs3, e2]; exact not_not_intro g1
    have st31 : sF (stA (stA (stA σ 29 P) 30 A) 31 (σ.2.1 31)) 311 0 = sF (stA (stA σ 29 P) 30 A) 311 0 := by
      rw [show stA (stA (stA σ 29 P) 30 A) 31 (σ.2.1 31) = stA (stA σ 29 P) 30 A from stA_same (stA (stA σ 29 P) 30 A) 31]
    have st12 : stA (sF (stA (stA τ 13 Q) 14 B) 14 (nI mo)) 12 (τ.2.1 12) = sF (stA (stA τ 13 Q) 14 B) 14 (nI mo) := stA_same (sF (stA (stA τ 13 Q) 14 B) 14 (nI mo)) 12
    refine ⟨nI mo, sF (stA (stA (stA σ 29 P) 30 A) 31 Cc) 311 (nI mo), stA (sF (stA (stA τ 13 Q) 14 B) 14 (nI mo)) 12 Cm, ?_, ?_, ⟨mo, by omega, rfl, rfl, fun q hq => ?_⟩, (((Fr.rf.wSA (by decide)).wSA (by decide)).wSA (by decide)).wF (by decide), (((Fr.rf.wSA (by decide)).wSA (by decide)).wF (by decide)).wSA (by decide)⟩
    · have fc : f_X5_findChain (nI t) sp k σ = some (nI mo, sF (stA (stA (stA σ 29 P) 30 A) 31 Cc) 311 (nI mo)) := by
        unfold f_X5_findChain
        rw [p1, bS]
        have me : f_X5_measure (nI L.length) sp (stA σ 29 P) = some (nI mo, stA (stA σ 29 P) 30 A) := by
          unfold f_X5_measure
          rw [bndE]
          exact m1
        have fo : f_X5_follow (nI L.length) sp (nI mo) (stA (stA σ 29 P) 30 A) = some (sF (stA (stA (stA σ 29 P) 30 A) 31 Cc) 311 (nI mo)) := by
          unfold f_X5_follow
          rw [bndE, ← st31]
          exact f1
        show (f_X5_measure (nI L.length) sp (stA σ 29 P)).bind _ = _
        rw [me, bS]
        show (f_X5_follow (nI L.length) sp (nI mo) (stA (stA σ 29 P) 30 A)).bind _ = _
        rw [fo, bS]
        rfl
      unfold f_X10_chain
      rw [if_neg i1, if_neg (by rw [minute0]; omega), rsp, bS, fc]
      rfl
    · unfold f_X11_chain
      rw [if_neg i2, if_neg (by rw [mminute0]; omega), q1]
      unfold f_X11_chain_128
      rw [bndE, show f_X11_chain_136 (nI t) (nI L.length) FU 0 (nI L.length - 1) (stA τ 13 Q) = _ from m2]
      unfold f_X11_chain_261
      rw [st12] at f2
      rw [bndE]
      exact f2
    · rw [show (sF (stA (stA (stA σ 29 P) 30 A) 31 Cc) 311 (nI mo)).2.1 31 = Cc from stA_at _ 31 _, stA_at]
      exact f3 q hq
  · refine Op.no (-1) ?_ ?_ hh
    · unfold f_X10_chain
      simp only [lies0, in0, wdL, side0, author0, minute0, year0, week0, cell0, mside0, mminute0, myear0, mweek0, mship0, mtown0, ship0, town0, law0, mcell0, gF, ltI, leI, Int32.reduceToInt, Int64.reduceToInt, hs2, e2]
      (repeat' split) <;> first | rfl | (exfalso; omega)
    · unfold f_X11_chain
      simp only [lies0, in0, wdL, side0, author0, minute0, year0, week0, cell0, mside0, mminute0, myear0, mweek0, mship0, mtown0, ship0, town0, law0, mcell0, gF, ltI, leI, Int32.reduceToInt, Int64.reduceToInt, hs3, e2]
      (repeat' split) <;> first | rfl | (exfalso; omega)
