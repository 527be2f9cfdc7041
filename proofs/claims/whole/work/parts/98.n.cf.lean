/-! how the class holds a reading that has failed -/
def CF (T : Nat → Nat) (n K Ln : Nat) (σ0 σ : St) (f : Nat) : Prop := TpC T n σ ∧ (0 < f ∧ f < 10000 ∧ σ.1 509 = nI f) ∧ (∃ j, K ≤ j ∧ j ≤ Ln ∧ σ.1 408 = nI j) ∧ σ.1 3799 = nI Ln ∧ Fr [408, 503, 504, 505, 506, 507, 508, 509] [37] [] σ0 σ ∧ (∀ i, i < K → σ.2.1 37 i = σ0.2.1 37 i) ∧ ∃ p, p ≤ n ∧ Lx T n σ p
section CFs
variable {T : Nat → Nat} {n K Ln : Nat} {σ0 σ : St} {s : PS} {f : Nat}
set_option maxHeartbeats 200000 in
theorem CF.ne (h : CF T n K Ln σ0 σ f) : ¬ gF σ 509 = 0 := by
  obtain ⟨-, ⟨a, b, c⟩, -⟩ := h
  rw [show gF σ 509 = _ from c, show (0 : Int32) = nI 0 from rfl, nI_eqE (by omega) (by omega)]
  omega
set_option maxHeartbeats 200000 in
theorem CF.emit (h : CF T n K Ln σ0 σ f) (hL : Ln < 9000) (v : Int32) : ∃ σ', f_X2_emit v σ = some σ' ∧ CF T n K Ln σ0 σ' f := by
  obtain ⟨h1, h2, ⟨j, j1, j2, j3⟩, h4, h5, h6, h7⟩ := id h
  by_cases c : j < Ln
  · have f1 : Fr [408, 503, 504, 505, 506, 507, 508, 509] [37] [] σ (sF (sA σ 37 j v) 408 (nI (j + 1))) := (Fr.rf.wA (by decide)).wF (by decide)
    refine ⟨_, emitC h4 j3 hL c v, h1.fr f1 (by decide), h2, ⟨j + 1, by omega, by omega, rfl⟩, h4, h5.tr f1, fun i hi => ?_, h7⟩
    show upd (σ.2.1 37) j v i = _
    rw [upd_ne _ _ (by omega)]; exact h6 i hi
  · refine ⟨σ, ?_, h⟩
    have hl : lnO tC σ 37 = Ln := by show (σ.1 3799).toNatClampNeg = Ln; rw [h4, nI_clamp (by omega)]
    unfold f_X2_emit
    rw [show gF σ 408 = nI j from j3, if_pos (show lenI tC σ 37 ≤ nI j by unfold lenI; rw [hl]; exact nI_le (by omega) (by omega))]
set_option maxHeartbeats 200000 in
theorem CR.fail (h : CR T n K Ln σ0 σ s) (hl : K + s.2.2.length ≤ Ln) {k : Nat} (hk : k < 8) : ∃ σ', f_X4_fail (nI k) σ = some σ' ∧ CF T n K Ln σ0 σ' (1 + 8 * s.1 + k) := by
  obtain ⟨h1, h2, h3, h4, h5, h6, h7, h8, h9, h10⟩ := h
  have hn := h1.1
  have f1 : Fr [408, 503, 504, 505, 506, 507, 508, 509] [37] [] σ (sF σ 509 (nI (1 + 8 * s.1 + k))) := Fr.rf.wF (by decide)
  exact ⟨_, failC0 h5 h2.1 k, h1.fr f1 (by decide), ⟨by omega, by omega, rfl⟩, ⟨K + s.2.2.length, by omega, hl, h6⟩, h7, h9.tr f1, h10, s.1, h3, h2⟩
end CFs
