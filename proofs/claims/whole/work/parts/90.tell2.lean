/-! the clause that tells, both sides -/
def gF1 (σ : St) (a3 : Nat) (L : List Stt) (ks : Nat → Nat) (x1 : Int32) (t m s : Nat) : Option Nat := if (gS L s).1 = x1 ∧ frc L s m = true then fnd (pf σ a3 L ks t s) (gS L s).2.2.2.length 0 else none
def tS : Option (Nat × Nat) → Int32
  | some p => nI p.1
  | none => -1
def tK : Option (Nat × Nat) → Int32
  | some p => nI (12 * p.1 + p.2)
  | none => -1
def tJ : Option (Nat × Nat) → Int32
  | some p => nI (16 * p.1 + p.2)
  | none => -1
set_option maxHeartbeats 200000 in
theorem fnd_lt {p : Nat → Bool} : ∀ {n c c' : Nat}, fnd p n c = some c' → c ≤ c' ∧ c' < c + n ∧ p c' = true := by
  intro n
  induction n with
  | zero => intro c c' h; cases h
  | succ n ih =>
    intro c c' h
    rw [fnd_s] at h
    split at h
    · next hp => rw [← Option.some.inj h]; exact ⟨Nat.le_refl _, by omega, hp⟩
    · have := ih h; exact ⟨by omega, by omega, this.2.2⟩
set_option maxHeartbeats 200000 in
theorem tel_none {fr : Nat → Nat} {g : Nat → Option Nat} {n : Nat} (h : g n = none) : tel fr g (n + 1) = tel fr g n := by
  show (match g n with | none => tel fr g n | some c => _) = _
  rw [h]
set_option maxHeartbeats 200000 in
theorem tel_new {fr : Nat → Nat} {g : Nat → Option Nat} {n c : Nat} (h : g n = some c) (ht : tel fr g n = none) : tel fr g (n + 1) = some (n, c) := by
  show (match g n with | none => tel fr g n | some c => match tel fr g n with | none => some (n, c) | some p => if fr p.1 ≤ fr n then some (n, c) else some p) = _
  rw [h, ht]
set_option maxHeartbeats 200000 in
theorem tel_le {fr : Nat → Nat} {g : Nat → Option Nat} {n c : Nat} {p : Nat × Nat} (h : g n = some c) (ht : tel fr g n = some p) (hf : fr p.1 ≤ fr n) : tel fr g (n + 1) = some (n, c) := by
  show (match g n with | none => tel fr g n | some c => match tel fr g n with | none => some (n, c) | some p => if fr p.1 ≤ fr n then some (n, c) else some p) = _
  rw [h, ht]; exact if_pos hf
set_option maxHeartbeats 200000 in
theorem tel_gt {fr : Nat → Nat} {g : Nat → Option Nat} {n : Nat} {p : Nat × Nat} (ht : tel fr g n = some p) (hf : ¬ fr p.1 ≤ fr n) : tel fr g (n + 1) = some p := by
  show (match g n with | none => tel fr g n | some c => match tel fr g n with | none => some (n, c) | some p => if fr p.1 ≤ fr n then some (n, c) else some p) = _
  cases h : g n with
  | none => exact ht
  | some c => rw [ht]; exact if_neg hf
section Tell2
variable {σ τ : St} {L : List Stt} {ks : Nat → Nat} {Ln a3 : Nat}
set_option maxHeartbeats 200000 in
theorem clause_of (H : LawS σ τ L ks Ln) (W : WD σ τ a3) {t s : Nat} (ht : t ≤ 7) (hs : s < L.length) (B : Nat → Int64) : ∃ B', f_X11_clauseOf (nI s) (nI (thM t)) (stL τ 33 B) = some (match fnd (pf σ a3 L ks t s) (gS L s).2.2.2.length 0 with
    | some c' => nI (12 * s + c')
    | none => -1, stL τ 33 B') := by
  have c3 := (H.2.2.2.2.2.1 s hs).2.2.1.2.2.1
  obtain ⟨B', h⟩ := clause_5 H W ht hs (gS L s).2.2.2.length 0 FU B (by omega) (by unfold FU; omega)
  refine ⟨B', ?_⟩
  unfold f_X11_clauseOf
  rw [bndE, show (12 : Int32) * nI s = nI (12 * s + 0) by rw [Nat.add_zero]; exact pk_mul 12 s]
  exact h
set_option maxHeartbeats 200000 in
theorem tell_9 (H : LawS σ τ L ks Ln) (W : WD σ τ a3) {x1 : Int32} {t m : Nat} (ht : t ≤ 7) (hm : m < 9000) : ∀ (n j f : Nat) (B : Nat → Int64), j + n = L.length → n < f → ∃ B', f_X11_telling_9 x1 (nI (thM t)) (nI m) f (tS (tel (fun s => (gS L s).2.1) (gF1 σ a3 L ks x1 t m) j)) (tK (tel (fun s => (gS L s).2.1) (gF1 σ a3 L ks x1 t m) j)) (nI j) (stL τ 33 B) = some (tK (tel (fun s => (gS L s).2.1) (gF1 σ a3 L ks x1 t m) L.length), stL τ 33 B') := by
  have h0 := H
  obtain ⟨h1, h2, h3, h4, h5, h6, h7, h8⟩ := H
  intro n
  induction n with
  | zero =>
    intro j f B hj hf
    obtain ⟨f, rfl⟩ : ∃ q, f = q + 1 := ⟨f - 1, by omega⟩
    refine ⟨B, ?_⟩
    unfold f_X11_telling_9
    rw [show gF (stL τ 33 B) 25 = nI L.length from h3, if_pos (by rw [nI_leE (by omega) (by omega)]; omega), show j = L.length by omega]
  | succ n ih =>
    intro j f B hj hf
    obtain ⟨f, rfl⟩ : ∃ q, f = q + 1 := ⟨f - 1, by omega⟩
    have ih := fun B1 => ih (j + 1) f B1 (by omega) (by omega)
    rw [← show nI j + 1 = nI (j + 1) from nI_add _ 1] at ih
    obtain ⟨a, ⟨b1, b2, b3, b4, b5⟩, ⟨c1, c2, c3, c4⟩, d⟩ := h6 j (by omega)
    have H33 : LawS σ (stL τ 33 B) L ks Ln := h0
    unfold f_X11_telling_9 f_X11_telling_89
    rw [show gF (stL τ 33 B) 25 = nI L.length from h3, if_neg (by rw [nI_leE (by omega) (by omega)]; omega), rdM_19 (by omega), bS, stL2, b1]
    have gd : gF1 σ a3 L ks x1 t m j = if (gS L j).1 = x1 ∧ frc L j m = true then fnd (pf σ a3 L ks t j) (gS L j).2.2.2.length 0 else none := rfl
    by_cases e1 : (gS L j).1 = x1
    · rw [if_pos e1, force_eq H33 (by omega) hm, bS]
      by_cases e2 : frc L j m = true
      · rw [if_pos e2, if_neg (by decide)]
        rw [if_pos ⟨e1, e2⟩] at gd
        obtain ⟨B1, hB⟩ := clause_of h0 W ht (show j < L.length by omega) B
        rw [← gd] at hB
        cases hT : tel (fun s => (gS L s).2.1) (gF1 σ a3 L ks x1 t m) j with
        | none =>
          rw [if_pos (show tS none < 0 by decide)]
          unfold f_X11_telling_64 f_X11_telling_89
          rw [hB, bS]
          cases hg : gF1 σ a3 L ks x1 t m j with
          | none =>
            have := ih B1
            rw [tel_none hg, hT] at this
            obtain ⟨B2, this⟩ := this
            exact ⟨B2, this⟩
          | some c =>
            rw [gd] at hg
            have hc := (fnd_lt hg).2.1
            rw [← gd] at hg
            show ∃ B', (if 0 ≤ nI (12 * j + c) then _ else _) = _
            rw [if_pos (show (0 : Int32) ≤ nI (12 * j + c) from nI_le (a := 0) (Nat.zero_le _) (by omega))]
            have := ih B1
            rw [tel_new hg hT] at this
            obtain ⟨B2, this⟩ := this
            exact ⟨B2, this⟩
        | some p =>
          have hp := (tel_lt hT).1
          rw [if_neg (show ¬ tS (some p) < 0 by rw [show tS (some p) = nI p.1 from rfl, nI_lt0 (by omega)]; exact fun h => h), rdM_20 (by omega), bS, show tS (some p) = nI p.1 from rfl, rdM_20 (by omega), bS, stL2, b2, (h6 p.1 (by omega)).2.1.2.1]
          have d1 := (h6 p.1 (by omega)).2.2.1.1
          by_cases e3 : (gS L p.1).2.1 ≤ (gS L j).2.1
          · rw [if_pos (by rw [nI_leE (by omega) (by omega)]; exact e3)]
            unfold f_X11_telling_64 f_X11_telling_89
            rw [hB, bS]
            cases hg : gF1 σ a3 L ks x1 t m j with
            | none =>
              have := ih B1
              rw [tel_none hg, hT] at this
              obtain ⟨B2, this⟩ := this
              exact ⟨B2, this⟩
            | some c =>
              rw [gd] at hg
              have hc := (fnd_lt hg).2.1
              rw [← gd] at hg
              show ∃ B', (if 0 ≤ nI (12 * j + c) then _ else _) = _
              rw [if_pos (show (0 : Int32) ≤ nI (12 * j + c) from nI_le (a := 0) (Nat.zero_le _) (by omega))]
              have := ih B1
              rw [tel_le hg hT e3] at this
              obtain ⟨B2, this⟩ := this
              exact ⟨B2, this⟩
          · rw [if_neg (by rw [nI_leE (by omega) (by omega)]; exact e3)]
            have := ih B
            rw [tel_gt hT e3] at this
            obtain ⟨B2, this⟩ := this
            exact ⟨B2, this⟩
      · rw [if_neg e2, if_pos rfl]
        rw [if_neg (fun h => e2 h.2)] at gd
        have := ih B
        rw [tel_none gd] at this
        exact this
    · rw [if_neg e1]
      rw [if_neg (fun h => e1 h.1)] at gd
      have := ih B
      rw [tel_none gd] at this
      exact this
-- both searches find one clause
set_option maxHeartbeats 200000 in
theorem tell_both (H : LawS σ τ L ks Ln) (W : WD σ τ a3) {x1 : Int32} {t m : Nat} (ht : t ≤ 7) (hm : m < 9000) (A B : Nat → Int64) : ∃ (r : Option (Nat × Nat)) (A' B' : Nat → Int64), f_X2_findClause a3 x1 (nI t) (nI m) (stL σ 44 A) = some (tJ r, stL σ 44 A') ∧ f_X11_telling x1 (nI (thM t)) (nI m) (stL τ 33 B) = some (tK r, stL τ 33 B') ∧ (∀ p, r = some p → p.1 < L.length ∧ p.2 < (gS L p.1).2.2.2.length ∧ (gC (gS L p.1) p.2).1 = t) := by
  have h1 := H.1
  obtain ⟨A', hA⟩ := find_3 H W (x1 := x1) ht hm (srt (kyL L) L.length) 0 FU A (fun s hs => (srt_mem _ _ _).mp hs) rfl (by rw [srt_len]; omega) (by rw [srt_len]; unfold FU; omega)
  obtain ⟨B', hB⟩ := tell_9 H W (x1 := x1) ht hm L.length 0 FU B (by omega) (by unfold FU; omega)
  have te := tel_eq (L := L) (g := gF1 σ a3 L ks x1 t m) L.length h1
  refine ⟨tel (fun s => (gS L s).2.1) (gF1 σ a3 L ks x1 t m) L.length, A', B', ?_, hB, ?_⟩
  · rw [← te]
    unfold f_X2_findClause
    refine Eq.trans hA ?_
    show some (match fst1 (gF1 σ a3 L ks x1 t m) (srt (kyL L) L.length) with | some p => nI (16 * p.1 + p.2) | none => -1, stL σ 44 A') = _
    cases fst1 (gF1 σ a3 L ks x1 t m) (srt (kyL L) L.length) <;> rfl
  · intro p hp
    obtain ⟨q1, q2⟩ := tel_lt hp
    refine ⟨q1, ?_⟩
    unfold gF1 at q2
    split at q2
    · obtain ⟨r1, r2, r3⟩ := fnd_lt q2
      refine ⟨by omega, ?_⟩
      unfold pf at r3
      exact of_decide_eq_true (Bool.and_eq_true_iff.mp r3).1
    · cases q2
end Tell2
