/-! the reference's reading of the tape -/
def b8 (c : Nat) : Int32 := (nI c).toInt8.toInt32
set_option maxRecDepth 100000 in
set_option maxHeartbeats 200000 in
theorem b8_all : ∀ c, c < 256 → (b8 c &&& 255 = nI c) ∧ (c < 128 → b8 c = nI c) ∧ (128 ≤ c → b8 c < 0) := by decide
set_option maxHeartbeats 200000 in
theorem b8_eq {c k : Nat} (hc : c < 256) (hk : k < 128) : (b8 c = nI k) = (c = k) := by
  obtain ⟨-, h2, h3⟩ := b8_all c hc
  by_cases q : c < 128
  · rw [h2 q, nI_eqE (by omega) (by omega)]
  · refine propext ⟨fun z => ?_, fun z => by omega⟩
    have := h3 (by omega)
    rw [z, nI_lt0 (by omega)] at this
    exact this.elim
set_option maxHeartbeats 200000 in
theorem b8_lt {c k : Nat} (hc : c < 256) (hk : k < 128) : (b8 c < nI k) = (128 ≤ c ∨ c < k) := by
  obtain ⟨-, h2, h3⟩ := b8_all c hc
  by_cases q : c < 128
  · rw [h2 q, nI_ltE (by omega) (by omega)]
    exact propext ⟨fun z => Or.inr z, fun z => z.elim (fun w => by omega) id⟩
  · refine propext ⟨fun _ => Or.inl (by omega), fun _ => ?_⟩
    have a := h3 (by omega)
    have b : (0 : Int32) ≤ nI k := nI_le (a := 0) (Nat.zero_le _) (by omega)
    rw [ltI] at a ⊢
    rw [leI] at b
    omega
set_option maxHeartbeats 200000 in
theorem b8_gt {c k : Nat} (hc : c < 256) (hk : k < 128) : (nI k < b8 c) = (c < 128 ∧ k < c) := by
  obtain ⟨-, h2, h3⟩ := b8_all c hc
  by_cases q : c < 128
  · rw [h2 q, nI_ltE (by omega) (by omega)]
    exact propext ⟨fun z => ⟨q, z⟩, fun z => z.2⟩
  · refine propext ⟨fun w => ?_, fun z => absurd z.1 q⟩
    have a := h3 (by omega)
    have b : (0 : Int32) ≤ nI k := nI_le (a := 0) (Nat.zero_le _) (by omega)
    rw [ltI] at a w
    rw [leI] at b
    omega
def TpM (T : Nat → Nat) (n : Nat) (τ : St) : Prop := n ≤ 400 ∧ τ.1 24 = nI n ∧ (∀ i, T i < 256) ∧ ∀ i, τ.2.1 18 i = b8 (T i)
set_option maxHeartbeats 200000 in
theorem TpM.fr {T : Nat → Nat} {n : Nat} {σ σ' : St} {Ks As Ls : List Nat} (h : TpM T n σ) (f : Fr Ks As Ls σ σ') (d : 24 ∉ Ks ∧ 18 ∉ As) : TpM T n σ' := ⟨h.1, (f.1 24 d.1).trans h.2.1, h.2.2.1, fun i => by rw [f.2.1 18 d.2]; exact h.2.2.2 i⟩
def byI (T : Nat → Nat) (n p : Nat) : Int32 := if p < n then nI (T p) else -1
section SE
variable {T : Nat → Nat} {n : Nat}
set_option maxHeartbeats 200000 in
theorem see38 {τ : St} (h : TpM T n τ) {p : Nat} (e : τ.1 38 = nI p) (hp : p ≤ n) : f_X11_see_38 τ = some (byI T n p, τ) := by
  have h1 := h.1
  unfold f_X11_see_38 byI
  rw [show gF τ 24 = _ from h.2.1, show gF τ 38 = _ from e]
  by_cases c : p < n
  · rw [if_neg (by rw [nI_leE (by omega) (by omega)]; omega), rdM_18 (by omega), bS, h.2.2.2, (b8_all _ (h.2.2.1 p)).1, if_pos c]
  · rw [if_pos (by rw [nI_leE (by omega) (by omega)]; omega), if_neg c]
set_option maxHeartbeats 200000 in
theorem see0 : ∀ (k p f : Nat) (τ : St), TpM T n τ → τ.1 38 = nI p → n - p = k → p ≤ n → k < f → ∃ τ', f_X11_see_0 f τ = some (byI T n (ev T n isSp p), τ') ∧ τ'.1 38 = nI (ev T n isSp p) ∧ Fr [38] [] [] τ τ' := by
  intro k
  induction k with
  | zero =>
    intro p f τ h e hk hp hf
    obtain ⟨f, rfl⟩ : ∃ q, f = q + 1 := ⟨f - 1, by omega⟩
    have h1 := h.1
    rw [ev_no (by omega)]
    refine ⟨τ, ?_, e, Fr.rf⟩
    unfold f_X11_see_0
    rw [show gF τ 24 = _ from h.2.1, show gF τ 38 = _ from e, if_pos (by rw [nI_leE (by omega) (by omega)]; omega)]
    exact see38 h e hp
  | succ k ih =>
    intro p f τ h e hk hp hf
    obtain ⟨f, rfl⟩ : ∃ q, f = q + 1 := ⟨f - 1, by omega⟩
    have h1 := h.1
    have hT := h.2.2.1 p
    unfold f_X11_see_0
    rw [show gF τ 24 = _ from h.2.1, show gF τ 38 = _ from e, if_neg (by rw [nI_leE (by omega) (by omega)]; omega), rdM_18 (by omega), bS, h.2.2.2]
    have e3 : (b8 (T p) = 32) = (T p = 32) := b8_eq (k := 32) hT (by omega)
    by_cases c : T p = 32
    · rw [if_pos (e3.mpr c), bndE, show nI p + 1 = nI (p + 1) from nI_add _ 1, ev_go (show p < n by omega) (decide_eq_true c)]
      have f1 : Fr [38] [] [] τ (sF τ 38 (nI (p + 1))) := Fr.rf.wF (by decide)
      obtain ⟨τ', r1, r2, r3⟩ := ih (p + 1) f _ (h.fr f1 (by decide)) rfl (by omega) (by omega) (by omega)
      exact ⟨τ', r1, r2, f1.tr r3⟩
    · rw [if_neg (fun w => c (e3.mp w)), ev_no (fun z => c (of_decide_eq_true z.2))]
      exact ⟨τ, see38 h e hp, e, Fr.rf⟩
set_option maxHeartbeats 200000 in
theorem seeM {τ : St} (h : TpM T n τ) {p : Nat} (e : τ.1 38 = nI p) (hp : p ≤ n) : ∃ τ', f_X11_see τ = some (byI T n (ev T n isSp p), τ') ∧ τ'.1 38 = nI (ev T n isSp p) ∧ Fr [38] [] [] τ τ' := see0 (n - p) p FU τ h e rfl hp (by have := h.1; unfold FU; omega)
set_option maxHeartbeats 200000 in
theorem digM {τ : St} (h : TpM T n τ) {p : Nat} (e : τ.1 38 = nI p) (hp : p ≤ n) : f_X11_isDigit τ = some (if p < n ∧ isDg (T p) = true then 1 else 0) := by
  have h1 := h.1
  have hT := h.2.2.1 p
  unfold f_X11_isDigit f_X11_isDigit_43
  rw [show gF τ 24 = _ from h.2.1, show gF τ 38 = _ from e]
  by_cases c : p < n
  · have l1 : (b8 (T p) < 48) = (128 ≤ T p ∨ T p < 48) := b8_lt (k := 48) hT (by omega)
    have l2 : (57 < b8 (T p)) = (T p < 128 ∧ 57 < T p) := b8_gt (k := 57) hT (by omega)
    rw [if_neg (by rw [nI_leE (by omega) (by omega)]; omega), rdM_18 (by omega), bS, bS, h.2.2.2]
    by_cases d : isDg (T p) = true
    · have d' : 48 ≤ T p ∧ T p ≤ 57 := of_decide_eq_true d
      rw [if_neg (by rw [l1]; omega), if_neg (by rw [l2]; omega), if_pos ⟨c, d⟩]
    · have d' : ¬ (48 ≤ T p ∧ T p ≤ 57) := fun z => d (decide_eq_true z)
      rw [if_neg (show ¬ (p < n ∧ isDg (T p) = true) from fun z => d z.2)]
      by_cases q : 128 ≤ T p ∨ T p < 48
      · rw [if_pos (l1.mpr q)]
      · rw [if_neg (fun z => q (l1.mp z)), if_pos (l2.mpr (by omega))]
  · rw [if_pos (by rw [nI_leE (by omega) (by omega)]; omega), if_neg (fun z => c z.1)]
set_option maxHeartbeats 200000 in
theorem skipM : ∀ (k p f : Nat) (τ : St), TpM T n τ → τ.1 38 = nI p → n - p = k → p ≤ n → k < f → ∃ τ', f_X11_skips_0 f τ = some τ' ∧ τ'.1 38 = nI (ev T n isLo p) ∧ Fr [38] [] [] τ τ' := by
  intro k
  induction k with
  | zero =>
    intro p f τ h e hk hp hf
    obtain ⟨f, rfl⟩ : ∃ q, f = q + 1 := ⟨f - 1, by omega⟩
    have h1 := h.1
    rw [ev_no (by omega)]
    refine ⟨τ, ?_, e, Fr.rf⟩
    unfold f_X11_skips_0
    rw [show gF τ 24 = _ from h.2.1, show gF τ 38 = _ from e, if_pos (by rw [nI_leE (by omega) (by omega)]; omega)]
  | succ k ih =>
    intro p f τ h e hk hp hf
    obtain ⟨f, rfl⟩ : ∃ q, f = q + 1 := ⟨f - 1, by omega⟩
    have h1 := h.1
    have hT := h.2.2.1 p
    have l1 : (b8 (T p) < 97) = (128 ≤ T p ∨ T p < 97) := b8_lt (k := 97) hT (by omega)
    have l2 : (122 < b8 (T p)) = (T p < 128 ∧ 122 < T p) := b8_gt (k := 122) hT (by omega)
    unfold f_X11_skips_0
    rw [show gF τ 24 = _ from h.2.1, show gF τ 38 = _ from e, if_neg (by rw [nI_leE (by omega) (by omega)]; omega), rdM_18 (by omega), bS, bS, h.2.2.2]
    by_cases d : isLo (T p) = true
    · have d' : 97 ≤ T p ∧ T p ≤ 122 := of_decide_eq_true d
      rw [if_neg (by rw [l1]; omega), if_neg (by rw [l2]; omega), bndE, show nI p + 1 = nI (p + 1) from nI_add _ 1, ev_go (show p < n by omega) d]
      have f1 : Fr [38] [] [] τ (sF τ 38 (nI (p + 1))) := Fr.rf.wF (by decide)
      obtain ⟨τ', r1, r2, r3⟩ := ih (p + 1) f _ (h.fr f1 (by decide)) rfl (by omega) (by omega) (by omega)
      exact ⟨τ', r1, r2, f1.tr r3⟩
    · have d' : ¬ (97 ≤ T p ∧ T p ≤ 122) := fun z => d (decide_eq_true z)
      rw [ev_no (fun z => d z.2)]
      refine ⟨τ, ?_, e, Fr.rf⟩
      by_cases q : 128 ≤ T p ∨ T p < 97
      · rw [if_pos (l1.mpr q)]
      · rw [if_neg (fun z => q (l1.mp z)), if_pos (l2.mpr (by omega))]
end SE
