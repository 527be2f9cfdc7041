/-! how the class holds a reading under way -/
def CR (T : Nat → Nat) (n K Ln : Nat) (σ0 σ : St) (s : PS) : Prop := TpC T n σ ∧ Lx T n σ s.1 ∧ s.1 ≤ n ∧ σ.1 508 = nI s.2.1 ∧ σ.1 509 = 0 ∧ σ.1 408 = nI (K + s.2.2.length) ∧ σ.1 3799 = nI Ln ∧ (∀ o, o < s.2.2.length → σ.2.1 37 (K + o) = s.2.2.getD o 0) ∧ Fr [408, 503, 504, 505, 506, 507, 508, 509] [37] [] σ0 σ ∧ ∀ i, i < K → σ.2.1 37 i = σ0.2.1 37 i
set_option maxHeartbeats 200000 in
theorem tkE_le {T : Nat → Nat} {n p : Nat} (hp : p ≤ n) : tkE T n p ≤ n ∧ p ≤ tkE T n p ∧ (p < n → p < tkE T n p) := by
  unfold tkE
  by_cases c : p < n
  · rw [if_pos c]
    by_cases l : isLo (T p) = true
    · rw [if_pos l, ev_go c l]
      have := ev_ge (T := T) (n := n) (q := isLo) (n - (p + 1)) (p + 1) rfl
      exact ⟨this.2.1 (by omega), by omega, fun _ => by omega⟩
    · rw [if_neg l]
      by_cases d : isDg (T p) = true
      · rw [if_pos d, ev_go c d]
        have := ev_ge (T := T) (n := n) (q := isDg) (n - (p + 1)) (p + 1) rfl
        exact ⟨this.2.1 (by omega), by omega, fun _ => by omega⟩
      · rw [if_neg d]
        split
        · next h => exact ⟨by omega, by omega, fun _ => by omega⟩
        · exact ⟨by omega, by omega, fun _ => by omega⟩
  · rw [if_neg c]; exact ⟨hp, Nat.le_refl _, fun z => absurd z c⟩
section CRs
variable {T : Nat → Nat} {n K Ln : Nat} {σ0 σ : St} {s : PS}
set_option maxHeartbeats 200000 in
theorem CR.adv (h : CR T n K Ln σ0 σ s) : ∃ σ', f_X4_advance σ = some σ' ∧ CR T n K Ln σ0 σ' (stp T n s) := by
  obtain ⟨h1, h2, h3, h4, h5, h6, h7, h8, h9, h10⟩ := h
  have te := tkE_le (T := T) h3
  obtain ⟨σ', r1, r2, r3⟩ := advC h1 h2.2.2.1 te.1
  have ge := ev_ge (T := T) (n := n) (q := isSp) (n - tkE T n s.1) (tkE T n s.1) rfl
  refine ⟨σ', r1, h1.fr r3 (by decide), r2, ge.2.1 te.1, (r3.1 508 (by decide)).trans h4, (r3.1 509 (by decide)).trans h5, (r3.1 408 (by decide)).trans h6, (r3.1 3799 (by decide)).trans h7, ?_, h9.tr (r3.up (by decide)), ?_⟩
  · rw [r3.2.1 37 (by decide)]; exact h8
  · rw [r3.2.1 37 (by decide)]; exact h10
set_option maxHeartbeats 200000 in
theorem CR.emit (h : CR T n K Ln σ0 σ s) (hl : K + s.2.2.length < Ln) (hL : Ln < 9000) (v : Int32) : ∃ σ', f_X2_emit v σ = some σ' ∧ CR T n K Ln σ0 σ' (lay v s) := by
  obtain ⟨h1, h2, h3, h4, h5, h6, h7, h8, h9, h10⟩ := h
  have f1 : Fr [408, 503, 504, 505, 506, 507, 508, 509] [37] [] σ (sF (sA σ 37 (K + s.2.2.length) v) 408 (nI (K + s.2.2.length + 1))) := (Fr.rf.wA (by decide)).wF (by decide)
  refine ⟨_, emitC h7 h6 hL hl v, h1.fr f1 (by decide), h2, h3, h4, h5, ?_, h7, ?_, h9.tr f1, ?_⟩
  · show nI (K + s.2.2.length + 1) = nI (K + (s.2.2 ++ [v]).length)
    rw [List.length_append]; rfl
  · intro o ho
    show upd (σ.2.1 37) (K + s.2.2.length) v (K + o) = (s.2.2 ++ [v]).getD o 0
    have ho : o < (s.2.2 ++ [v]).length := ho
    rw [List.length_append] at ho
    have ho : o < s.2.2.length + 1 := ho
    by_cases e : o = s.2.2.length
    · rw [e, upd_at, List.getD_eq_getElem?_getD, List.getElem?_append_right (Nat.le_refl _), Nat.sub_self]; rfl
    · rw [upd_ne _ _ (by omega), List.getD_eq_getElem?_getD, List.getElem?_append_left (by omega), ← List.getD_eq_getElem?_getD]
      exact h8 o (by omega)
  · intro i hi
    show upd (σ.2.1 37) (K + s.2.2.length) v i = _
    rw [upd_ne _ _ (by omega)]; exact h10 i hi
end CRs
