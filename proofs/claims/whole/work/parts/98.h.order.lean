/-! the class puts a new statute into its order -/
set_option maxHeartbeats 200000 in
theorem putL {σ : St} {fr : Nat → Nat} {l : List Nat} {k : Nat} (hk : k < 12) (h4 : σ.1 400 = nI k) (hl : ∀ a ∈ l, a < k) (hlen : l.length < 12) (hf : ∀ a, a ≤ k → fr a ≤ 8999) (h33 : ∀ a, a < k → σ.2.1 33 a = nI (fr a)) (hs : Srd (fun a => -(16 * (fr a : Int) + a)) l) : ∀ (p m : Nat) (A : Nat → Int32), p ≤ l.length → p < m → ShI A l p → (∀ i, p ≤ i → i < l.length → (fun a => -(16 * (fr a : Int) + a)) k < (fun a => -(16 * (fr a : Int) + a)) (l.getD i 0)) → ∃ A', f_X2_putInOrder_5 (nI (fr k)) m (nI p) (stA σ 35 A) = some (stA σ 35 A') ∧ Rp A' (ins (fun a => -(16 * (fr a : Int) + a)) k l) := by
  have hfk := hf k (Nat.le_refl _)
  intro p
  induction p with
  | zero =>
    intro m A h1 h2 h3 h5
    obtain ⟨m, rfl⟩ : ∃ q, m = q + 1 := ⟨m - 1, by omega⟩
    refine ⟨upd A 0 (nI k), ?_, h3.fin h1 (ins_at l 0 h1 (fun i hi => absurd hi (by omega)) h5)⟩
    unfold f_X2_putInOrder_5 f_X2_putInOrder_40
    rw [if_pos (by decide), show gF (stA σ 35 A) 400 = nI k from h4, wrC_35 (by decide), bS, sA_st, stA_at, stA_2]
  | succ p ih =>
    intro m A h1 h2 h3 h5
    obtain ⟨m, rfl⟩ : ∃ q, m = q + 1 := ⟨m - 1, by omega⟩
    have hr : l.getD p 0 < k := hl _ (getD_mem (by omega))
    have hA : A p = nI (l.getD p 0) := h3.1 p (by omega)
    have e1 := nI_toInt (show l.getD p 0 < 2 ^ 31 by omega)
    have hfr := hf (l.getD p 0) (by omega)
    have rdA : rd tC (stA σ 35 A) 35 (nI p) = some (nI (l.getD p 0)) := by rw [rdC_35 (by omega), stA_at, hA]
    have mA : f_X2_minuteAt (nI p) (stA σ 35 A) = some (nI (fr (l.getD p 0))) := by
      unfold f_X2_minuteAt
      rw [rdA, bS, if_neg (show ¬ f_X10_lies (nI (l.getD p 0)) 0 11 = 0 by rw [show (0 : Int32) = nI 0 from rfl, show (11 : Int32) = nI 11 from rfl, show (nI 0 : Int32) = 0 from rfl]; exact fun z => absurd ((liesN (c := l.getD p 0) (a := 0) (b := 11) (by omega) (by omega) (by omega)).mp z) (not_not_intro ⟨by omega, by omega⟩)), rdC_33 (by omega), bS]
      show some (σ.2.1 33 (l.getD p 0)) = _
      rw [h33 _ hr]
    unfold f_X2_putInOrder_5
    rw [if_neg (nI_nle (by omega) (by omega)), nI_pred, mA, bS]
    by_cases c : fr k < fr (l.getD p 0)
    · rw [if_pos (nI_lt c (by omega))]
      have c' : (fun a => -(16 * (fr a : Int) + a)) (l.getD p 0) ≤ (fun a => -(16 * (fr a : Int) + a)) k := by
        show -(16 * (fr (l.getD p 0) : Int) + (l.getD p 0 : Nat)) ≤ -(16 * (fr k : Int) + k)
        omega
      refine ⟨upd A (p + 1) (nI k), ?_, h3.fin h1 (ins_at l (p + 1) h1 (fun i hi => Int.le_trans (srd_le hs (by omega) (by omega)) c') h5)⟩
      unfold f_X2_putInOrder_40
      rw [show gF (stA σ 35 A) 400 = nI k from h4, wrC_35 (by omega), bS, sA_st, stA_at, stA_2]
    · rw [if_neg (show ¬ nI (fr k) < nI (fr (l.getD p 0)) by rw [nI_ltE (by omega) (by omega)]; exact c), rdA, bS, wrC_35 (by omega), bS, bndE, pk_m1, sA_st, stA_at, stA_2, ← hA]
      refine ih m _ (by omega) (by omega) h3.step (fun i g1 g2 => ?_)
      by_cases d : i = p
      · subst d
        show -(16 * (fr k : Int) + k) < -(16 * (fr (l.getD i 0) : Int) + (l.getD i 0 : Nat))
        omega
      · exact h5 i (by omega) g2
