/-! the class strikes others -/
set_option maxHeartbeats 200000 in
theorem minI {a m : Nat} (ha : a < 100000) (hm : m < 100000) : f_J9_min_7cf53 (nI a) (nI m) = nI (min a m) := by
  unfold f_J9_min_7cf53
  by_cases c : m < a
  · rw [if_pos (nI_lt c (by omega))]; congr 1; omega
  · rw [if_neg (show ¬ nI m < nI a by rw [nI_ltE (by omega) (by omega)]; exact c)]; congr 1; omega
set_option maxHeartbeats 200000 in
theorem strikeL {σ : St} {S : Stt} {k m : Nat} (hk : k < 12) (h4 : σ.1 400 = nI k) (hm : m ≤ 8999) (hC : S.2.2.2.length ≤ 12) (h36 : σ.2.1 36 k = nI S.2.2.2.length) (h38 : ∀ c, c < S.2.2.2.length → σ.2.1 38 (12 * k + c) = nI (gC S c).1 ∧ σ.2.1 39 (12 * k + c) = (gC S c).2.1 ∧ (gC S c).1 ≤ 7 ∧ ((gC S c).1 = 7 → ∃ N, N < k ∧ (gC S c).2.1 = nI N)) : ∀ (n c f : Nat) (A : Nat → Int32) (a : Nat → Nat), c + n = S.2.2.2.length → n < f → (∀ s, s < k → A s = nI (a s) ∧ a s ≤ 9000) → ∃ A', f_X2_strikeOthers_10 (nI m) (nI (12 * k)) f (nI (12 * k + c)) (stA σ 34 A) = some (stA σ 34 A') ∧ (∀ s, s < k → A' s = nI (if (fnd (stkB S (nI s)) n c).isSome then min (a s) m else a s)) ∧ ∀ s, k ≤ s → A' s = A s := by
  intro n
  induction n with
  | zero =>
    intro c f A a hc hf hA
    obtain ⟨f, rfl⟩ : ∃ q, f = q + 1 := ⟨f - 1, by omega⟩
    refine ⟨A, ?_, fun s hs => (hA s hs).1, fun _ _ => rfl⟩
    unfold f_X2_strikeOthers_10
    rw [show gF (stA σ 34 A) 400 = nI k from h4, rdC_36 (by omega), bS, show (stA σ 34 A).2.1 36 k = _ from h36, show nI (12 * k) + nI S.2.2.2.length = nI (12 * k + S.2.2.2.length) from nI_add _ _, if_pos (by rw [nI_leE (by omega) (by omega)]; omega)]
  | succ n ih =>
    intro c f A a hc hf hA
    obtain ⟨f, rfl⟩ : ∃ q, f = q + 1 := ⟨f - 1, by omega⟩
    obtain ⟨q1, q2, q3, q4⟩ := h38 c (by omega)
    have e7 : (nI (gC S c).1 = 7) = ((gC S c).1 = 7) := nI_eqE (b := 7) (by omega) (by omega)
    unfold f_X2_strikeOthers_10 f_X2_strikeOthers_75
    rw [show gF (stA σ 34 A) 400 = nI k from h4, rdC_36 (by omega), bS, show (stA σ 34 A).2.1 36 k = _ from h36, show nI (12 * k) + nI S.2.2.2.length = nI (12 * k + S.2.2.2.length) from nI_add _ _, if_neg (by rw [nI_leE (by omega) (by omega)]; omega), rdC_38 (by omega), bS, show (stA σ 34 A).2.1 38 (12 * k + c) = _ from q1, rdC_39 (by omega), bS, bS, show (stA σ 34 A).2.1 39 (12 * k + c) = _ from q2, bndE, show nI (12 * k + c) + 1 = nI (12 * k + (c + 1)) from nI_add _ 1]
    by_cases d : (gC S c).1 = 7
    · obtain ⟨N, hN, eN⟩ := q4 d
      obtain ⟨hAN, haN⟩ := hA N hN
      rw [if_pos (e7.mpr d), eN]
      have hh : ¬ f_X2_has (nI N) (stA σ 34 A) = 0 := by
        rw [law0, show gF (stA σ 34 A) 400 = nI k from h4, nI_toInt (show N < 2 ^ 31 by omega), nI_toInt (show k < 2 ^ 31 by omega)]
        exact not_not_intro ⟨by omega, by omega⟩
      rw [if_neg hh, rdC_34 (by omega), bS, wrC_34 (by omega), bS, sA_st, stA_at, stA_2, hAN, minI (by omega) (by omega), bndE]
      obtain ⟨A', r1, r2, r3⟩ := ih (c + 1) f (upd A N (nI (min (a N) m))) (fun s => if s = N then min (a N) m else a s) (by omega) (by omega) (fun s hs => by
        show _ = nI (if s = N then min (a N) m else a s) ∧ (if s = N then min (a N) m else a s) ≤ 9000
        by_cases e : s = N
        · rw [if_pos e, e, upd_at]; exact ⟨rfl, by omega⟩
        · rw [if_neg e, upd_ne _ _ e]; exact hA s hs)
      refine ⟨A', r1, fun s hs => ?_, fun s hs => by rw [r3 s hs, upd_ne _ _ (by omega)]⟩
      rw [r2 s hs, fnd_s]
      have st : stkB S (nI s) c = (decide ((gC S c).1 = 7) && decide ((gC S c).2.1 = nI s)) := rfl
      rw [decide_eq_true d, Bool.true_and, eN] at st
      by_cases e : s = N
      · have : stkB S (nI s) c = true := by rw [st, e]; exact decide_eq_true rfl
        rw [this]
        show nI (if (fnd (stkB S (nI s)) n (c + 1)).isSome = true then min (if s = N then min (a N) m else a s) m else (if s = N then min (a N) m else a s)) = nI (min (a s) m)
        rw [if_pos e, e]
        congr 1
        split <;> omega
      · have : stkB S (nI s) c = false := by
          rw [st]
          refine decide_eq_false ?_
          rw [nI_eqE (by omega) (by omega)]
          exact fun z => e z.symm
        rw [this]
        show nI (if (fnd (stkB S (nI s)) n (c + 1)).isSome = true then min (if s = N then min (a N) m else a s) m else (if s = N then min (a N) m else a s)) = nI (if (fnd (stkB S (nI s)) n (c + 1)).isSome = true then min (a s) m else a s)
        rw [if_neg e]
    · rw [if_neg (fun z => d (e7.mp z))]
      obtain ⟨A', r1, r2, r3⟩ := ih (c + 1) f A a (by omega) (by omega) hA
      refine ⟨A', r1, fun s hs => ?_, r3⟩
      rw [r2 s hs, fnd_s]
      have st : stkB S (nI s) c = (decide ((gC S c).1 = 7) && decide ((gC S c).2.1 = nI s)) := rfl
      rw [st, decide_eq_false d, Bool.false_and]; rfl
