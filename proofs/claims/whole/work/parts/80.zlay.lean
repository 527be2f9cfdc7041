section LZ
variable {w h : Nat}
theorem lay_em (hw : 1 ≤ w ∧ w ≤ 5) (hh : 1 ≤ h ∧ h ≤ 5) : f_J9_min_7cf53 (nI w * nI h) 25 = nI (w * h) := by
  have hn : w * h ≤ 25 := Nat.mul_le_mul hw.2 hh.2
  rw [pk_mul]
  unfold f_J9_min_7cf53
  rw [if_neg (show ¬ (25 : Int32) < nI (w * h) from nI_nlt (a := 25) (by omega) (by decide))]
def laS (w h ff lf : Nat) (σ : St) : St := sF (sF (sF (sF (sF (sF (sF σ 600 (nI w)) 601 (nI (w * h))) 604 (((1 : Int32) <<< (nI (w * h) &&& 31)) - 1)) 605 0) 606 0) 602 (nI ff)) 603 (nI lf)
set_option maxHeartbeats 100000 in
theorem lay_un {x3 : Int32} {ff lf : Nat} (hw : 1 ≤ w ∧ w ≤ 5) (hh : 1 ≤ h ∧ h ≤ 5) {σ : St} (e30 : (if x3 = 0 then 25 else 0 : Int32) = nI ff) (e32 : (if x3 = 0 then 25 else nI (w * h) - 1 : Int32) = nI lf) : f_X1_lay (nI w) (nI h) x3 σ = (f_J7_fill_53178 46 (-1) (laS w h ff lf σ)).bind fun σ34 => (wr tC σ34 46 127 25).bind fun σ35 => f_X1_lay_92 (nI w) (nI h) FU 0 σ35 := by
  unfold f_X1_lay laS
  rw [lay_em hw hh, e30]
  have g1 : gF (sF (sF σ 600 (nI w)) 601 (nI (w * h))) 601 = nI (w * h) := rfl
  have g2 : gF (sF (sF (sF (sF (sF (sF σ 600 (nI w)) 601 (nI (w * h))) 604 (((1 : Int32) <<< (nI (w * h) &&& 31)) - 1)) 605 0) 606 0) 602 (nI ff)) 601 = nI (w * h) := rfl
  rw [bndE, bndE, g1, bndE, bndE, bndE, bndE, bndE, g2, e32, bndE, bndE]
set_option maxHeartbeats 100000 in
theorem laS_0 (ff lf : Nat) (σ : St) : (laS w h ff lf σ).1 600 = nI w ∧ (laS w h ff lf σ).1 601 = nI (w * h) ∧ (laS w h ff lf σ).1 602 = nI ff ∧ (laS w h ff lf σ).1 603 = nI lf ∧ (laS w h ff lf σ).1 604 = ((1 : Int32) <<< (nI (w * h) &&& 31)) - 1 ∧ (laS w h ff lf σ).1 605 = 0 ∧ (laS w h ff lf σ).1 606 = 0 := by
  unfold laS
  simp only [sF1, Nat.reduceEqDiff, reduceIte, and_self]
theorem laS_fr (ff lf : Nat) (σ : St) : Fr [600, 601, 602, 603, 604, 605, 606] [46] [] σ (laS w h ff lf σ) := ((((((Fr.rf.wF (by decide)).wF (by decide)).wF (by decide)).wF (by decide)).wF (by decide)).wF (by decide)).wF (by decide)
set_option maxHeartbeats 100000 in
theorem lay_25 {L : Nat → Int32} (f2 : ∀ i, i < 130 → L i = -1) : ∀ i, i < 5 → upd L 127 25 (125 + i) = oI (fnb w h 25 i) := by
  intro i hi
  have k : fnb w h 25 i = if i = 2 then some 25 else none := if_pos rfl
  rw [k]
  by_cases c : i = 2
  · subst c
    rw [if_pos rfl]
    exact upd_at _ _ _
  · rw [if_neg c, upd_ne _ _ (by omega), f2 _ (by omega)]
    rfl
set_option maxHeartbeats 100000 in
theorem layC {x3 : Int32} {ff lf : Nat} (hw : 1 ≤ w ∧ w ≤ 5) (hh : 1 ≤ h ∧ h ≤ 5) {σ : St} (e30 : (if x3 = 0 then 25 else 0 : Int32) = nI ff) (e32 : (if x3 = 0 then 25 else nI (w * h) - 1 : Int32) = nI lf) : ∃ σ', f_X1_lay (nI w) (nI h) x3 σ = some σ' ∧ GS w h ff lf σ' ∧ Fr [600, 601, 602, 603, 604, 605, 606] [46] [] σ σ' := by
  obtain ⟨s0, s1, s2, s3, s4, s5, s6⟩ := laS_0 (w := w) (h := h) ff lf σ
  have hFS := laS_fr (w := w) (h := h) ff lf σ
  rw [lay_un hw hh e30 e32]
  generalize laS w h ff lf σ = S at *
  obtain ⟨L, f1, f2⟩ := fillI (a := 46) (N := 130) (-1) (fun _ => rfl) (by decide) (σ := S)
  have f3 : wr tC (stA S 46 L) 46 127 25 = some (stA S 46 (upd L 127 25)) := by
    rw [show wr tC (stA S 46 L) 46 127 25 = _ from wrC_46 (i := 127) (by decide), sA_st, stA_at, stA_2]
  have hP : LyP w h (w * 0) S (stA S 46 (upd L 127 25)) := by
    refine ⟨Fr.rf.wSA (by decide), fun c' hc' => absurd hc' (by rw [Nat.mul_zero]; omega), by rw [stA_at]; exact lay_25 f2, fun i hi => ?_, fun i hi => ?_⟩
    · rw [stA1, s5, b_0, decide_eq_false (fun z => by rw [Nat.mul_zero] at z; omega)]
    · rw [stA1, s6, b_0, decide_eq_false (fun z => by rw [Nat.mul_zero] at z; omega)]
  obtain ⟨σ', z1, hF, p1, p2, p3, p4⟩ := lay_y hw hh (σ1 := S) s0 h 0 FU _ (by omega) (by unfold FU; omega) hP
  have k : ∀ j, j ≠ 605 → j ≠ 606 → σ'.1 j = S.1 j := fun j q1 q2 => hF.1 j (by simp; exact ⟨q1, q2⟩)
  refine ⟨σ', ?_, ⟨⟨(k 600 (by decide) (by decide)).trans s0, (k 601 (by decide) (by decide)).trans s1, (k 602 (by decide) (by decide)).trans s2, (k 603 (by decide) (by decide)).trans s3, (k 604 (by decide) (by decide)).trans s4⟩, p3, p4, fun f hf i hi => ?_⟩, hFS.tr (hF.up (by decide))⟩
  · rw [f1, bS, f3, bS]
    exact z1
  · rcases hf with hf | hf
    · rw [fnb_nbr hw hh hf]; exact p1 f hf i hi
    · rw [hf]; exact p2 i hi
end LZ
