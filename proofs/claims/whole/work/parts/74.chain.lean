/-! the chain -/
def pC (O K : Nat → Int32) (s kn : Int32) (r : Nat) : Bool := decide (O r = s ∧ ¬ kn < K r)
theorem Rp.concat {A : Nat → Int32} {l : List Nat} (h : Rp A l) (r : Nat) : Rp (upd A l.length (nI r)) (l ++ [r]) := by
  intro i hi
  rw [List.length_append] at hi
  have hi : i < l.length + 1 := hi
  rw [List.getD_eq_getElem?_getD]
  by_cases c : i = l.length
  · subst c
    rw [upd_at, List.getElem?_append_right (Nat.le_refl _), Nat.sub_self]
    rfl
  · rw [upd_ne _ _ c, List.getElem?_append_left (by omega), h i (by omega), List.getD_eq_getElem?_getD]
theorem pickC {σ : St} {n : Nat} (hn : n ≤ 300) (h1 : σ.1 307 = nI n) (hR : Rp (σ.2.1 28) (srt (kyR (σ.2.1 24)) n)) (s kn : Int32) : ∀ (k i m : Nat) (A : Nat → Int32), i + k = n → k < m → Rp A (((srt (kyR (σ.2.1 24)) n).take i).filter (pC (σ.2.1 23) (σ.2.1 27) s kn)) → ∃ A', f_X5_pick_5 s kn m (nI (((srt (kyR (σ.2.1 24)) n).take i).filter (pC (σ.2.1 23) (σ.2.1 27) s kn)).length) (nI i) (stA σ 29 A) = some (nI ((srt (kyR (σ.2.1 24)) n).filter (pC (σ.2.1 23) (σ.2.1 27) s kn)).length, stA σ 29 A') ∧ Rp A' ((srt (kyR (σ.2.1 24)) n).filter (pC (σ.2.1 23) (σ.2.1 27) s kn)) := by
  have hsl : (srt (kyR (σ.2.1 24)) n).length = n := srt_len _ _
  intro k
  induction k with
  | zero =>
    intro i m A h2 h3 h4
    obtain ⟨m, rfl⟩ : ∃ q, m = q + 1 := ⟨m - 1, by omega⟩
    rw [List.take_of_length_le (by omega)] at h4 ⊢
    refine ⟨A, ?_, h4⟩
    unfold f_X5_pick_5
    rw [if_pos (by show σ.1 307 ≤ _; rw [h1]; exact nI_le (by omega) (by omega))]
  | succ k ih =>
    intro i m A h2 h3 h4
    obtain ⟨m, rfl⟩ : ∃ q, m = q + 1 := ⟨m - 1, by omega⟩
    have hr : (srt (kyR (σ.2.1 24)) n).getD i 0 < n := (srt_mem _ _ _).mp (getD_mem (by omega))
    have hA := hR i (by omega)
    have hc : (((srt (kyR (σ.2.1 24)) n).take i).filter (pC (σ.2.1 23) (σ.2.1 27) s kn)).length ≤ i := by
      have h5 := List.length_filter_le (pC (σ.2.1 23) (σ.2.1 27) s kn) ((srt (kyR (σ.2.1 24)) n).take i)
      rw [List.length_take] at h5
      omega
    have ft := filter_take (q := pC (σ.2.1 23) (σ.2.1 27) s kn) (l := srt (kyR (σ.2.1 24)) n) (p := i) (by omega)
    have ihh := ih (i + 1) m
    rw [ft] at ihh
    generalize (srt (kyR (σ.2.1 24)) n).getD i 0 = r at *
    generalize ((srt (kyR (σ.2.1 24)) n).take i).filter (pC (σ.2.1 23) (σ.2.1 27) s kn) = T at *
    have e1 := nI_toInt (show r < 2 ^ 31 by omega)
    have en := nI_toInt (show n - 1 < 2 ^ 31 by omega)
    unfold f_X5_pick_5 f_X5_pick_71
    simp only [bndE]
    rw [if_neg (by show ¬ σ.1 307 ≤ _; rw [h1]; exact nI_ge (by omega) (by omega)), rdC_28 (by omega), bS, show (stA σ 29 A).2.1 28 i = nI r from hA, show gF (stA σ 29 A) 307 = _ from h1, nIs n (by omega)]
    rw [if_neg (by rw [lies0, e1, en]; show ¬ ¬ ((0 : Int) ≤ _ ∧ _); omega), rdC_23 (by omega), bS, rdC_27 (by omega), bS, wrC_29 (by omega), bS, nI_1, nI_1, sA_st, stA_at, stA_2]
    have no : ¬ (σ.2.1 23 r = s ∧ ¬ kn < σ.2.1 27 r) → ∃ A', f_X5_pick_5 s kn m (nI T.length) (nI (i + 1)) (stA σ 29 A) = some (nI ((srt (kyR (σ.2.1 24)) n).filter (pC (σ.2.1 23) (σ.2.1 27) s kn)).length, stA σ 29 A') ∧ Rp A' ((srt (kyR (σ.2.1 24)) n).filter (pC (σ.2.1 23) (σ.2.1 27) s kn)) := by
      intro hno
      rw [if_neg (show ¬ pC (σ.2.1 23) (σ.2.1 27) s kn r = true by unfold pC; rw [decide_eq_true_iff]; exact hno), List.append_nil] at ihh
      exact ihh A (by omega) (by omega) h4
    by_cases c1 : σ.2.1 23 r = s
    · rw [if_pos (show (stA σ 29 A).2.1 23 r = s from c1)]
      by_cases c2 : kn < σ.2.1 27 r
      · rw [if_pos (show kn < (stA σ 29 A).2.1 27 r from c2)]; exact no (fun z => z.2 c2)
      · rw [if_neg (show ¬ kn < (stA σ 29 A).2.1 27 r from c2)]
        rw [if_pos (show pC (σ.2.1 23) (σ.2.1 27) s kn r = true from decide_eq_true ⟨c1, c2⟩), List.length_append] at ihh
        exact ihh _ (by omega) (by omega) (h4.concat r)
    · rw [if_neg (show ¬ (stA σ 29 A).2.1 23 r = s from c1)]; exact no (fun z => c1 z.1)
theorem insM {τ : St} {l : List Nat} {k c : Nat} (hk : k < 300) (hl : ∀ a ∈ l, a < 300) (hlen : l.length < 300) (hs : Srd (kyR (τ.2.1 8)) l) (s kn : Int32) {k22 : Int32 → Int32 → St → Option (Int32 × St)} : ∀ (p m : Nat) (A : Nat → Int32), p ≤ l.length → p < m → ShI A l p → (∀ i, p ≤ i → i < l.length → kyR (τ.2.1 8) k < kyR (τ.2.1 8) (l.getD i 0)) → ∃ A', f_X11_chain_59 s kn (nI c) (nI k) k22 m (nI p) (stA τ 13 A) = k22 (nI (c + 1)) (nI (k + 1)) (stA τ 13 A') ∧ Rp A' (ins (kyR (τ.2.1 8)) k l) := by
  intro p
  induction p with
  | zero =>
    intro m A h1 h2 h3 h4
    obtain ⟨m, rfl⟩ : ∃ q, m = q + 1 := ⟨m - 1, by omega⟩
    refine ⟨upd A 0 (nI k), ?_, h3.fin h1 (ins_at l 0 h1 (fun i hi => absurd hi (by omega)) h4)⟩
    unfold f_X11_chain_59 f_X11_chain_110 f_X11_chain_122
    rw [if_pos (by decide), wrM_13 (by decide), bS, sA_st, stA_at, stA_2, bndE, bndE, nI_1, nI_1]
  | succ p ih =>
    intro m A h1 h2 h3 h4
    obtain ⟨m, rfl⟩ : ∃ q, m = q + 1 := ⟨m - 1, by omega⟩
    have hr : l.getD p 0 < 300 := hl _ (getD_mem (by omega))
    have hA : A p = nI (l.getD p 0) := h3.1 p (by omega)
    have rdA : rd tM (stA τ 13 A) 13 (nI p) = some (nI (l.getD p 0)) := by rw [rdM_13 (by omega), stA_at, hA]
    unfold f_X11_chain_59
    rw [if_neg (nI_nle (by omega) (by omega)), nI_pred, rdA, bS, rdM_8 hr, bS, rdM_8 hk, bS, bS]
    by_cases d : τ.2.1 8 (l.getD p 0) ≤ τ.2.1 8 k
    · rw [if_pos (show (stA τ 13 A).2.1 8 (l.getD p 0) ≤ (stA τ 13 A).2.1 8 k from d)]
      have d' : kyR (τ.2.1 8) (l.getD p 0) ≤ kyR (τ.2.1 8) k := by rw [leI] at d; exact d
      refine ⟨upd A (p + 1) (nI k), ?_, h3.fin h1 (ins_at l (p + 1) h1 (fun i hi => Int.le_trans (srd_le hs (by omega) (by omega)) d') h4)⟩
      unfold f_X11_chain_110 f_X11_chain_122
      rw [wrM_13 (by omega), bS, sA_st, stA_at, stA_2, bndE, bndE, nI_1, nI_1]
    · rw [if_neg (show ¬ (stA τ 13 A).2.1 8 (l.getD p 0) ≤ (stA τ 13 A).2.1 8 k from d), wrM_13 (by omega), bS, bndE, pk_m1, sA_st, stA_at, stA_2, ← hA]
      refine ih m _ (by omega) (by omega) h3.step (fun i g1 g2 => ?_)
      by_cases e : i = p
      · subst e
        rw [leI] at d
        unfold kyR
        omega
      · exact h4 i (by omega) g2
theorem pickM {τ : St} {n : Nat} (hn : n ≤ 300) (h1 : τ.1 7 = nI n) (s kn : Int32) : ∀ (k i m : Nat) (A : Nat → Int32), i + k = n → k < m → Rp A ((srt (kyR (τ.2.1 8)) i).filter (pC (τ.2.1 7) (τ.2.1 11) s kn)) → ∃ A', f_X11_chain_22 s kn m (nI ((srt (kyR (τ.2.1 8)) i).filter (pC (τ.2.1 7) (τ.2.1 11) s kn)).length) (nI i) (stA τ 13 A) = f_X11_chain_128 s (nI ((srt (kyR (τ.2.1 8)) n).filter (pC (τ.2.1 7) (τ.2.1 11) s kn)).length) (stA τ 13 A') ∧ Rp A' ((srt (kyR (τ.2.1 8)) n).filter (pC (τ.2.1 7) (τ.2.1 11) s kn)) := by
  intro k
  induction k with
  | zero =>
    intro i m A h2 h3 h4
    obtain ⟨m, rfl⟩ : ∃ q, m = q + 1 := ⟨m - 1, by omega⟩
    have : i = n := by omega
    subst this
    refine ⟨A, ?_, h4⟩
    unfold f_X11_chain_22
    rw [if_pos (by show τ.1 7 ≤ _; rw [h1]; exact nI_le (by omega) (by omega))]
  | succ k ih =>
    intro i m A h2 h3 h4
    obtain ⟨m, rfl⟩ : ∃ q, m = q + 1 := ⟨m - 1, by omega⟩
    have hc : ((srt (kyR (τ.2.1 8)) i).filter (pC (τ.2.1 7) (τ.2.1 11) s kn)).length ≤ i := by
      have h5 := List.length_filter_le (pC (τ.2.1 7) (τ.2.1 11) s kn) (srt (kyR (τ.2.1 8)) i)
      rw [srt_len] at h5
      exact h5
    have ft : (srt (kyR (τ.2.1 8)) (i + 1)).filter (pC (τ.2.1 7) (τ.2.1 11) s kn) = if pC (τ.2.1 7) (τ.2.1 11) s kn i = true then ins (kyR (τ.2.1 8)) i ((srt (kyR (τ.2.1 8)) i).filter (pC (τ.2.1 7) (τ.2.1 11) s kn)) else (srt (kyR (τ.2.1 8)) i).filter (pC (τ.2.1 7) (τ.2.1 11) s kn) := filter_ins _ (srt_srd _ i)
    have ihh := ih (i + 1) m
    rw [ft] at ihh
    unfold f_X11_chain_22
    rw [if_neg (by show ¬ τ.1 7 ≤ _; rw [h1]; exact nI_ge (by omega) (by omega)), rdM_7 (by omega), bS, rdM_11 (by omega), bS]
    have no : ¬ (τ.2.1 7 i = s ∧ ¬ kn < τ.2.1 11 i) → ∃ A', f_X11_chain_122 s kn (nI ((srt (kyR (τ.2.1 8)) i).filter (pC (τ.2.1 7) (τ.2.1 11) s kn)).length) (nI i) (stA τ 13 A) (f_X11_chain_22 s kn m) = f_X11_chain_128 s (nI ((srt (kyR (τ.2.1 8)) n).filter (pC (τ.2.1 7) (τ.2.1 11) s kn)).length) (stA τ 13 A') ∧ Rp A' ((srt (kyR (τ.2.1 8)) n).filter (pC (τ.2.1 7) (τ.2.1 11) s kn)) := by
      intro hno
      rw [if_neg (show ¬ pC (τ.2.1 7) (τ.2.1 11) s kn i = true by unfold pC; rw [decide_eq_true_iff]; exact hno)] at ihh
      unfold f_X11_chain_122
      rw [bndE, nI_1]
      exact ihh A (by omega) (by omega) h4
    by_cases c1 : τ.2.1 7 i = s
    · rw [if_pos (show (stA τ 13 A).2.1 7 i = s from c1)]
      by_cases c2 : τ.2.1 11 i ≤ kn
      · rw [if_pos (show (stA τ 13 A).2.1 11 i ≤ kn from c2)]
        have c2' : ¬ kn < τ.2.1 11 i := by rw [ltI]; rw [leI] at c2; omega
        rw [if_pos (show pC (τ.2.1 7) (τ.2.1 11) s kn i = true from decide_eq_true ⟨c1, c2'⟩), ins_len] at ihh
        obtain ⟨A1, z1, z2⟩ := insM (τ := τ) (l := (srt (kyR (τ.2.1 8)) i).filter (pC (τ.2.1 7) (τ.2.1 11) s kn)) (k := i) (c := ((srt (kyR (τ.2.1 8)) i).filter (pC (τ.2.1 7) (τ.2.1 11) s kn)).length) (by omega) (fun a ha => by have := (srt_mem _ _ _).mp (List.mem_filter.mp ha).1; omega) (by omega) ((srt_srd _ i).filter _) s kn (k22 := f_X11_chain_22 s kn m) _ FU A (Nat.le_refl _) (by unfold FU; omega) (ShI.of h4) (fun q g1 g2 => absurd g2 (by omega))
        obtain ⟨A2, y1, y2⟩ := ihh A1 (by omega) (by omega) z2
        exact ⟨A2, z1.trans y1, y2⟩
      · rw [if_neg (show ¬ (stA τ 13 A).2.1 11 i ≤ kn from c2)]
        exact no (fun z => z.2 (by rw [ltI]; rw [leI] at c2; omega))
    · rw [if_neg (show ¬ (stA τ 13 A).2.1 7 i = s from c1)]; exact no (fun z => c1 z.1)
/-! which can both be -/
def cbB (X Y M : Nat → Int32) (sp : Int32) (a b : Nat) : Bool := decide (¬ sp * f_J9_abs_0f7a4 (M a - M b) < f_J9_max_7cf53 (f_J9_abs_0f7a4 (X a - X b)) (f_J9_abs_0f7a4 (Y a - Y b)))
theorem mxle (x y : Int32) : (if x ≤ y then y else x) = f_J9_max_7cf53 x y := by
  unfold f_J9_max_7cf53
  by_cases c : x < y
  · rw [if_pos c, if_pos (by rw [leI]; rw [ltI] at c; omega)]
  · rw [if_neg c]
    by_cases d : x ≤ y
    · rw [if_pos d]
      rw [ltI] at c
      rw [leI] at d
      exact Int32.toInt_inj.mp (by omega)
    · rw [if_neg d]
theorem cbC {σ : St} {n : Nat} (hn : n ≤ 300) (h1 : σ.1 307 = nI n) {a b : Nat} (ha : a < n) (hb : b < n) (sp : Int32) : f_X5_canBothBe (nI a) (nI b) sp σ = some (if cbB (σ.2.1 25) (σ.2.1 26) (σ.2.1 24) sp a b = true then 1 else 0) := by
  have ea := nI_toInt (show a < 2 ^ 31 by omega)
  have eb := nI_toInt (show b < 2 ^ 31 by omega)
  have en := nI_toInt (show n - 1 < 2 ^ 31 by omega)
  unfold f_X5_canBothBe
  rw [show gF σ 307 = _ from h1, nIs n (by omega), if_neg (by rw [lies0, ea, en]; show ¬ ¬ ((0 : Int) ≤ _ ∧ _); omega), if_neg (by rw [lies0, eb, en]; show ¬ ¬ ((0 : Int) ≤ _ ∧ _); omega), rdC_25 (by omega), bS, rdC_25 (by omega), bS, rdC_26 (by omega), bS, rdC_26 (by omega), bS, bndE, rdC_24 (by omega), bS, rdC_24 (by omega), bS, bndE, narB']
  unfold cbB
  by_cases c : sp * f_J9_abs_0f7a4 (σ.2.1 24 a - σ.2.1 24 b) < f_J9_max_7cf53 (f_J9_abs_0f7a4 (σ.2.1 25 a - σ.2.1 25 b)) (f_J9_abs_0f7a4 (σ.2.1 26 a - σ.2.1 26 b))
  · rw [if_pos c, if_neg (by rw [decide_eq_true_iff]; exact not_not_intro c)]
  · rw [if_neg c, if_pos (decide_eq_true c)]
theorem cbM {τ : St} {a b : Nat} (ha : a < 300) (hb : b < 300) (sp : Int32) : f_X11_canBoth (nI a) (nI b) sp τ = some (if cbB (τ.2.1 9) (τ.2.1 10) (τ.2.1 8) sp a b = true then 1 else 0) := by
  unfold f_X11_canBoth
  rw [rdM_9 ha, bS, rdM_9 hb, bS, bndE, rdM_10 ha, bS, rdM_10 hb, bS, bndE, bndE, rdM_8 ha, bS, rdM_8 hb, bS, bndE, narB', mxle, abs_eq, abs_eq, abs_eq]
  unfold cbB
  by_cases c : sp * f_J9_abs_0f7a4 (τ.2.1 8 a - τ.2.1 8 b) < f_J9_max_7cf53 (f_J9_abs_0f7a4 (τ.2.1 9 a - τ.2.1 9 b)) (f_J9_abs_0f7a4 (τ.2.1 10 a - τ.2.1 10 b))
  · rw [if_pos c, if_neg (by rw [decide_eq_true_iff]; exact not_not_intro c)]
  · rw [if_neg c, if_pos (decide_eq_true c)]
