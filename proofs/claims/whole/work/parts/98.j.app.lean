/-! a statute more -/
set_option maxHeartbeats 200000 in
theorem gS_old {L : List Stt} {S : Stt} {s : Nat} (h : s < L.length) : gS (L ++ [S]) s = gS L s := by
  unfold gS
  rw [List.getD_eq_getElem?_getD, List.getD_eq_getElem?_getD, List.getElem?_append_left h]
set_option maxHeartbeats 200000 in
theorem gS_new {L : List Stt} {S : Stt} : gS (L ++ [S]) L.length = S := by
  unfold gS
  rw [List.getD_eq_getElem?_getD, List.getElem?_append_right (Nat.le_refl _), Nat.sub_self]; rfl
set_option maxHeartbeats 200000 in
theorem srt_app {L : List Stt} {S : Stt} : srt (kyL (L ++ [S])) (L.length + 1) = ins (kyL (L ++ [S])) L.length (srt (kyL L) L.length) := by
  show ins _ _ (srt _ L.length) = _
  rw [srt_congr (key := kyL (L ++ [S])) (key' := kyL L) L.length (fun a ha => by unfold kyL; rw [gS_old ha])]
set_option maxHeartbeats 200000 in
theorem sf_app {L : List Stt} {S : Stt} {s : Nat} : sfN (L ++ [S]) s (L.length + 1) = if stks S (nI s) then min (sfN L s L.length) S.2.1 else sfN L s L.length := by
  have : ∀ n, n ≤ L.length → sfN (L ++ [S]) s n = sfN L s n := by
    intro n
    induction n with
    | zero => intro _; rfl
    | succ n ih =>
      intro hn
      show (if stks (gS (L ++ [S]) n) (nI s) then _ else _) = if stks (gS L n) (nI s) then _ else _
      rw [gS_old (show n < L.length by omega), ih (by omega)]
  show (if stks (gS (L ++ [S]) L.length) (nI s) then _ else _) = _
  rw [gS_new, this _ (Nat.le_refl _)]
set_option maxHeartbeats 200000 in
theorem stks_no {S : Stt} {j s : Nat} (hj : j < 100) (hs : s < 100) (hw : wf1 j S) (h : j ≤ s) : stks S (nI s) = false := by
  unfold stks
  cases e : fnd (stkB S (nI s)) S.2.2.2.length 0 with
  | none => rfl
  | some c =>
    obtain ⟨-, r2, r3⟩ := fnd_lt e
    obtain ⟨y1, y2⟩ := Bool.and_eq_true_iff.mp r3
    obtain ⟨N, hN, eN⟩ := (hw.2.2.2 c (by omega)).2.2.2.2 (of_decide_eq_true y1)
    have y2 := of_decide_eq_true y2
    rw [eN, nI_eqE (by omega) (by omega)] at y2
    omega
set_option maxHeartbeats 200000 in
theorem sf_self {L : List Stt} {s : Nat} (hs : s < 100) (hw : ∀ j, j ≤ s → wf1 j (gS L j)) : ∀ n, n ≤ s + 1 → sfN L s n = 9000 := by
  intro n
  induction n with
  | zero => intro _; rfl
  | succ n ih =>
    intro hn
    show (if stks (gS L n) (nI s) then _ else sfN L s n) = _
    rw [stks_no (j := n) (by omega) hs (hw n (by omega)) (by omega), if_neg (by decide)]
    exact ih (by omega)
