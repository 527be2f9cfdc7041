/-! words and numbers, reference -/
set_option maxHeartbeats 200000 in
theorem ev_in {T : Nat → Nat} {n : Nat} {q : Nat → Bool} : ∀ (k p : Nat), n - p = k → ∀ j, p ≤ j → j < ev T n q p → j < n ∧ q (T j) = true := by
  intro k
  induction k with
  | zero => intro p hp j h1 h2; rw [ev_no (by omega)] at h2; omega
  | succ k ih =>
    intro p hp j h1 h2
    by_cases c : p < n ∧ q (T p) = true
    · rw [ev_go c.1 c.2] at h2
      by_cases e : j = p
      · rw [e]; exact c
      · exact ih (p + 1) (by omega) j (by omega) h2
    · rw [ev_no c] at h2; omega
set_option maxHeartbeats 200000 in
theorem tl_mem {T : Nat → Nat} {P : Nat → Prop} : ∀ (k p : Nat), (∀ j, p ≤ j → j < p + k → P (T j)) → ∀ c ∈ tl T p k, P c := by
  intro k
  induction k with
  | zero => intro p _ c hc; cases hc
  | succ k ih =>
    intro p h c hc
    rcases List.mem_cons.mp hc with z | z
    · rw [z]; exact h p (Nat.le_refl _) (by omega)
    · exact ih (p + 1) (fun j h1 h2 => h j (by omega) (by omega)) c z
section LM
variable {T : Nat → Nat} {n : Nat}
set_option maxHeartbeats 200000 in
theorem isWM {τ : St} (h : TpM T n τ) {q : Nat} (e : τ.1 38 = nI q) (hq : q ≤ n) {code : Nat} {ws : List Nat} (W : WdM code ws) : ∃ τ', f_X11_isWord (Int64.ofNat code) τ = some (if wdB T n (ev T n isSp q) ws then 1 else 0, τ') ∧ τ'.1 38 = nI (ev T n isSp q) ∧ Fr [38] [] [] τ τ' := by
  obtain ⟨τ', r1, r2, r3⟩ := seeM h e hq
  have h' := h.fr r3 (by decide)
  obtain ⟨w1, w2, w3, w4⟩ := W
  have hp := (ev_ge (T := T) (n := n) (q := isSp) (n - q) q rfl).2.1 hq
  generalize ev T n isSp q = p at r1 r2 hp
  have ge := ev_ge (T := T) (n := n) (q := isLo) (n - p) p rfl
  have g1 := ge.1
  have g2 := ge.2.1 hp
  have hin := ev_in (T := T) (n := n) (q := isLo) (n - p) p rfl
  have h1 := h.1
  refine ⟨τ', ?_, r2, r3⟩
  unfold f_X11_isWord
  rw [r1, bS]
  have lp := isW_10 h' r2 (Int64.ofNat code) (n - p) 0 FU (by omega) hp (by unfold FU; omega) (fun j hj => absurd hj (by omega)) rfl
  have lp' : f_X11_isWord_10 (Int64.ofNat code) τ' FU 0 0 = _ := lp
  show f_X11_isWord_10 (Int64.ofNat code) τ' FU 0 0 = _
  rw [lp']
  unfold f_X11_isWord_90 f_X11_isWord_112
  have w0 : (nI (ev T n isLo p - p) ≤ 0) = (ev T n isLo p - p = 0) := nI_le0 (by omega)
  have w8 : ((8 : Int32) ≤ nI (ev T n isLo p - p)) = (8 ≤ ev T n isLo p - p) := nI_leE (a := 8) (by omega) (by omega)
  by_cases c0 : ev T n isLo p - p = 0
  · rw [if_pos (w0.mpr c0)]
    have : wdB T n p ws = false := by
      unfold wdB
      rw [decide_eq_false (fun z => by have := z.2.2; omega)]; rfl
    rw [this]; rfl
  · rw [if_neg (fun z => c0 (w0.mp z))]
    by_cases c8 : 8 ≤ ev T n isLo p - p
    · rw [if_pos (w8.mpr c8)]
      have : wdB T n p ws = false := by
        unfold wdB
        rw [decide_eq_false (fun z => by have := z.2.2; omega)]; rfl
      rw [this]; rfl
    · rw [if_neg (fun z => c8 (w8.mp z)), show min (ev T n isLo p - p) 7 = ev T n isLo p - p by omega, rv_tl]
      have dg : ∀ c ∈ tl T p (ev T n isLo p - p), 0 < c ∧ c < 256 := tl_mem _ _ (fun j z1 z2 => by
        have : 97 ≤ T j ∧ T j ≤ 122 := of_decide_eq_true (hin j z1 (by omega)).2
        exact ⟨by omega, by omega⟩)
      have dg1 : ∀ c ∈ (tl T p (ev T n isLo p - p)).reverse, 0 < c ∧ c < 256 := fun c hc => dg c (List.mem_reverse.mp hc)
      have dg2 : ∀ c ∈ ws.reverse, 0 < c ∧ c < 256 := fun c hc => w3 c (List.mem_reverse.mp hc)
      have b1 := pkr_lt _ (fun c hc => (dg1 c hc).2)
      have b2 := pkr_lt _ (fun c hc => (dg2 c hc).2)
      rw [List.length_reverse, tl_len] at b1
      rw [List.length_reverse] at b2
      have b1' : pkr (tl T p (ev T n isLo p - p)).reverse < 256 ^ 7 := Nat.lt_of_lt_of_le b1 (Nat.pow_le_pow_right (by omega) (by omega))
      have b2' : pkr ws.reverse < 256 ^ 7 := Nat.lt_of_lt_of_le b2 (Nat.pow_le_pow_right (by omega) (by omega))
      have e7 : (256 : Nat) ^ 7 = 72057594037927936 := rfl
      rw [e7] at b1' b2'
      have key : (Int64.ofNat (pkr (tl T p (ev T n isLo p - p)).reverse) = Int64.ofNat code) ↔ wdB T n p ws = true := by
        constructor
        · intro z
          have z := congrArg Int64.toInt z
          rw [w4, Int64.toInt_ofNat_of_lt (by omega), Int64.toInt_ofNat_of_lt (by omega)] at z
          have z2 : pkr (tl T p (ev T n isLo p - p)).reverse = pkr ws.reverse := by omega
          have z3 := List.reverse_inj.mp (pkr_inj _ _ dg1 dg2 z2)
          have z4 : ev T n isLo p - p = ws.length := by rw [← z3, tl_len]
          rw [z4] at z3
          have hi := hin p (Nat.le_refl _) (by omega)
          unfold wdB
          rw [decide_eq_true ⟨hi.1, hi.2, by omega⟩, (tl_eq T ws p).mp z3]; rfl
        · intro z
          unfold wdB at z
          obtain ⟨y1, y2⟩ := Bool.and_eq_true_iff.mp z
          have y1 := (of_decide_eq_true y1).2.2
          rw [show ev T n isLo p - p = ws.length by omega, (tl_eq T ws p).mpr y2, w4]
      by_cases k : wdB T n p ws = true
      · rw [if_pos (key.mpr k), if_pos k]
      · rw [if_neg (fun z => k (key.mp z)), if_neg k]
set_option maxHeartbeats 200000 in
theorem num_29 {s : Nat} (st : Int32) (hst : st = nI s) : ∀ (k j f : Nat) (τ : St), TpM T n τ → τ.1 38 = nI (s + j) → n - (s + j) = k → s + j ≤ n → k < f → ∃ τ', f_X11_number_29 st f (nI (nvl T s j)) τ = f_X11_number_77 st (nI (nvl T s (ev T n isDg (s + j) - s))) τ' ∧ τ'.1 38 = nI (ev T n isDg (s + j)) ∧ Fr [38] [] [] τ τ' := by
  intro k
  induction k with
  | zero =>
    intro j f τ h e hk hp hf
    obtain ⟨f, rfl⟩ : ∃ q, f = q + 1 := ⟨f - 1, by omega⟩
    refine ⟨τ, ?_, by rw [ev_no (by omega)]; exact e, Fr.rf⟩
    unfold f_X11_number_29
    rw [digM h e hp, bS, if_neg (show ¬ (s + j < n ∧ isDg (T (s + j)) = true) by omega), if_pos rfl, ev_no (by omega), show s + j - s = j by omega]
  | succ k ih =>
    intro j f τ h e hk hp hf
    obtain ⟨f, rfl⟩ : ∃ q, f = q + 1 := ⟨f - 1, by omega⟩
    have h1 := h.1
    have hT := h.2.2.1 (s + j)
    unfold f_X11_number_29 f_X11_number_64
    rw [digM h e hp, bS]
    by_cases d : isDg (T (s + j)) = true
    · have d' : 48 ≤ T (s + j) ∧ T (s + j) ≤ 57 := of_decide_eq_true d
      have ev1 : ev T n isDg (s + j) = ev T n isDg (s + (j + 1)) := ev_go (show s + j < n by omega) d
      rw [if_pos (show s + j < n ∧ isDg (T (s + j)) = true from ⟨by omega, d⟩), if_neg (by decide), show gF τ 38 = _ from e, hst, pk_sub (show s ≤ s + j by omega), show s + j - s = j by omega, rdM_18 (by omega), bS, h.2.2.2, bndE, bndE, bndE, show nI (s + j) + 1 = nI (s + (j + 1)) from nI_add _ 1, ← hst]
      have f1 : Fr [38] [] [] τ (sF τ 38 (nI (s + (j + 1)))) := Fr.rf.wF (by decide)
      obtain ⟨τ', r1, r2, r3⟩ := ih (j + 1) f _ (h.fr f1 (by decide)) rfl (by omega) (by omega) (by omega)
      rw [← ev1] at r1 r2
      refine ⟨τ', ?_, r2, f1.tr r3⟩
      rw [← r1]
      by_cases c5 : 5 ≤ j
      · rw [if_pos (show (5 : Int32) ≤ nI j from nI_le (a := 5) c5 (by omega)), show nvl T s (j + 1) = nvl T s j from if_neg (by omega)]
      · rw [if_neg (show ¬ (5 : Int32) ≤ nI j from by rw [show (5 : Int32) = nI 5 from rfl, nI_leE (by omega) (by omega)]; omega), show nvl T s (j + 1) = 10 * nvl T s j + (T (s + j) - 48) from if_pos (by omega), (b8_all _ hT).2.1 (by omega), show (10 : Int32) * nI (nvl T s j) + nI (T (s + j)) = nI (10 * nvl T s j + T (s + j)) from ixc 10 _ _, show nI (10 * nvl T s j + T (s + j)) - 48 = nI (10 * nvl T s j + T (s + j) - 48) from pk_sub (a := 10 * nvl T s j + T (s + j)) (b := 48) (by omega), show 10 * nvl T s j + T (s + j) - 48 = 10 * nvl T s j + (T (s + j) - 48) by omega]
    · rw [if_neg (show ¬ (s + j < n ∧ isDg (T (s + j)) = true) from fun z => d z.2), if_pos rfl, ev_no (fun z => d z.2), show s + j - s = j by omega]
      exact ⟨τ, rfl, e, Fr.rf⟩
end LM
