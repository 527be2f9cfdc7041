/-! the class's advance -/
set_option maxHeartbeats 200000 in
theorem nvl_le (T : Nat → Nat) (hT : ∀ i, T i < 256) (s : Nat) : ∀ k, nvl T s k ≤ 300 * 11 ^ (min k 5) := by
  intro k
  induction k with
  | zero => exact Nat.zero_le _
  | succ k ih =>
    unfold nvl
    by_cases c : k < 5
    · rw [if_pos c]
      have e1 : min k 5 = k := by omega
      have e2 : min (k + 1) 5 = k + 1 := by omega
      rw [e1] at ih
      rw [e2, Nat.pow_succ]
      have h1 := hT (s + k)
      have h2 : 1 ≤ 11 ^ k := Nat.one_le_pow _ _ (by omega)
      omega
    · rw [if_neg c]
      have e1 : min k 5 = 5 := by omega
      have e2 : min (k + 1) 5 = 5 := by omega
      rw [e1] at ih
      rw [e2]; exact ih
set_option maxHeartbeats 200000 in
theorem nvl_lt {T : Nat → Nat} (hT : ∀ i, T i < 256) (s k : Nat) : nvl T s k < 100000000 := by
  have h := nvl_le T hT s k
  have : 11 ^ (min k 5) ≤ 11 ^ 5 := Nat.pow_le_pow_right (by omega) (by omega)
  have e : (11 : Nat) ^ 5 = 161051 := rfl
  omega
section TB
variable {T : Nat → Nat} {n : Nat}
set_option maxHeartbeats 200000 in
theorem runDg {s : Nat} : ∀ (k j f : Nat) (σ : St), TpC T n σ → σ.1 503 = nI (s + j) → σ.1 506 = nI (nvl T s j) → σ.1 507 = nI j → n - (s + j) = k → s + j ≤ n → k < f → ∃ σ', f_X4_advance_140 f σ = some σ' ∧ (σ'.1 503 = nI (ev T n isDg (s + j)) ∧ σ'.1 506 = nI (nvl T s (ev T n isDg (s + j) - s)) ∧ σ'.1 507 = nI (ev T n isDg (s + j) - s)) ∧ Fr [503, 506, 507] [] [] σ σ' := by
  intro k
  induction k with
  | zero =>
    intro j f σ h e e6 e7 hk hp hf
    obtain ⟨f, rfl⟩ : ∃ q, f = q + 1 := ⟨f - 1, by omega⟩
    have h1 := h.1
    refine ⟨σ, ?_, ?_, Fr.rf⟩
    · unfold f_X4_advance_140
      rw [show gF σ 502 = _ from h.2.1, show gF σ 503 = _ from e, if_pos (by rw [nI_leE (by omega) (by omega)]; omega)]
    · rw [ev_no (by omega), show s + j - s = j by omega]
      exact ⟨e, e6, e7⟩
  | succ k ih =>
    intro j f σ h e e6 e7 hk hp hf
    obtain ⟨f, rfl⟩ : ∃ q, f = q + 1 := ⟨f - 1, by omega⟩
    have h1 := h.1
    have hT := h.2.2.1 (s + j)
    have hv := nvl_lt h.2.2.1 s j
    unfold f_X4_advance_140 f_X4_advance_204
    rw [show gF σ 502 = _ from h.2.1, show gF σ 503 = _ from e, show gF σ 506 = _ from e6, show gF σ 507 = _ from e7, if_neg (by rw [nI_leE (by omega) (by omega)]; omega), byteC h (by omega), bS, bS, if_pos (show s + j < n by omega)]
    by_cases c : isDg (T (s + j)) = true
    · have c' : 48 ≤ T (s + j) ∧ T (s + j) ≤ 57 := of_decide_eq_true c
      rw [if_neg (by rw [show (48 : Int32) = nI 48 from rfl, show (57 : Int32) = nI 57 from rfl, liesN (by omega) (by omega) (by omega)]; exact not_not_intro c')]
      have ev1 : ev T n isDg (s + j) = ev T n isDg (s + (j + 1)) := ev_go (show s + j < n by omega) c
      have key : ∀ v : Int32, v = nI (nvl T s (j + 1)) → ∃ σ', f_X4_advance_140 f (sF (sF (sF σ 506 v) 507 (σ.1 507 + 1)) 503 (σ.1 503 + 1)) = some σ' ∧ (σ'.1 503 = nI (ev T n isDg (s + j)) ∧ σ'.1 506 = nI (nvl T s (ev T n isDg (s + j) - s)) ∧ σ'.1 507 = nI (ev T n isDg (s + j) - s)) ∧ Fr [503, 506, 507] [] [] σ σ' := by
        intro v hv
        rw [e7, e, show nI j + 1 = nI (j + 1) from nI_add _ 1, show nI (s + j) + 1 = nI (s + (j + 1)) from nI_add _ 1]
        have f1 : Fr [503, 506, 507] [] [] σ (sF (sF (sF σ 506 v) 507 (nI (j + 1))) 503 (nI (s + (j + 1)))) := ((Fr.rf.wF (by decide)).wF (by decide)).wF (by decide)
        obtain ⟨σ', r1, r2, r3⟩ := ih (j + 1) f _ (h.fr f1 (by decide)) rfl hv rfl (by omega) (by omega) (by omega)
        rw [← ev1] at r2
        exact ⟨σ', r1, r2, f1.tr r3⟩
      by_cases c5 : 5 ≤ j
      · rw [if_pos (show (5 : Int32) ≤ nI j from nI_le (a := 5) c5 (by omega))]
        exact key _ (by show _ = nI (if j < 5 then _ else nvl T s j); rw [if_neg (by omega)])
      · rw [if_neg (show ¬ (5 : Int32) ≤ nI j from by rw [show (5 : Int32) = nI 5 from rfl, nI_leE (by omega) (by omega)]; omega)]
        refine key _ ?_
        show _ = nI (if j < 5 then 10 * nvl T s j + (T (s + j) - 48) else nvl T s j)
        rw [if_pos (by omega), show nI (nvl T s j) * 10 + nI (T (s + j)) = nI (10 * nvl T s j + T (s + j)) from ixd 10 _ _, show nI (10 * nvl T s j + T (s + j)) - 48 = nI (10 * nvl T s j + T (s + j) - 48) from pk_sub (a := 10 * nvl T s j + T (s + j)) (b := 48) (by omega)]
        congr 1; omega
    · have c' : ¬ (48 ≤ T (s + j) ∧ T (s + j) ≤ 57) := fun z => c (decide_eq_true z)
      rw [if_pos (by rw [show (48 : Int32) = nI 48 from rfl, show (57 : Int32) = nI 57 from rfl, liesN (by omega) (by omega) (by omega)]; exact c')]
      refine ⟨σ, rfl, ?_, Fr.rf⟩
      rw [ev_no (fun z => c z.2), show s + j - s = j by omega]
      exact ⟨e, e6, e7⟩
set_option maxHeartbeats 200000 in
theorem adv37 {σ : St} (h : TpC T n σ) {p : Nat} (e : σ.1 503 = nI p) (hp : p ≤ n) : ∃ σ', f_X4_advance_37 σ = some σ' ∧ Lx T n σ' p ∧ Fr [503, 504, 505, 506, 507] [] [] σ σ' := by
  have h1 := h.1
  have hT := h.2.2.1 p
  have f0 : Fr [503, 504, 505, 506, 507] [] [] σ (sF σ 505 (nI p)) := Fr.rf.wF (by decide)
  have h' := h.fr f0 (by decide)
  unfold f_X4_advance_37
  rw [bndE, show gF σ 503 = _ from e, show gF (sF σ 505 (nI p)) 503 = nI p from e, byteC h' (by omega), bS]
  by_cases c : p < n
  · rw [if_pos c]
    by_cases cl : isLo (T p) = true
    · have c' : 97 ≤ T p ∧ T p ≤ 122 := of_decide_eq_true cl
      rw [if_neg (by rw [show (97 : Int32) = nI 97 from rfl, show (122 : Int32) = nI 122 from rfl, liesN (by omega) (by omega) (by omega)]; exact not_not_intro c'), bndE]
      have f1 : Fr [503, 504, 505, 506, 507] [] [] σ (sF (sF σ 505 (nI p)) 504 (-2)) := f0.wF (by decide)
      obtain ⟨σ', r1, r2, r3⟩ := runLo (n - p) p FU _ (h.fr f1 (by decide)) e rfl hp (by unfold FU; omega)
      refine ⟨σ', r1, ⟨r3.1 505 (by decide), ?_, ?_, fun _ z => by rw [cl] at z; cases z⟩, f1.tr (r3.up (by decide))⟩
      · rw [r3.1 504 (by decide)]; unfold tkK; rw [if_pos c, if_pos cl]; rfl
      · rw [r2]; unfold tkE; rw [if_pos c, if_pos cl]
    · have c' : ¬ (97 ≤ T p ∧ T p ≤ 122) := fun z => cl (decide_eq_true z)
      rw [if_pos (by rw [show (97 : Int32) = nI 97 from rfl, show (122 : Int32) = nI 122 from rfl, liesN (by omega) (by omega) (by omega)]; exact c')]
      by_cases cd : isDg (T p) = true
      · have d' : 48 ≤ T p ∧ T p ≤ 57 := of_decide_eq_true cd
        rw [if_neg (by rw [show (48 : Int32) = nI 48 from rfl, show (57 : Int32) = nI 57 from rfl, liesN (by omega) (by omega) (by omega)]; exact not_not_intro d'), bndE, bndE, bndE]
        have f1 : Fr [503, 504, 505, 506, 507] [] [] σ (sF (sF (sF (sF σ 505 (nI p)) 504 (-3)) 506 0) 507 0) := ((f0.wF (by decide)).wF (by decide)).wF (by decide)
        obtain ⟨σ', r1, ⟨r2, r4, r5⟩, r3⟩ := runDg (s := p) (n - p) 0 FU _ (h.fr f1 (by decide)) e rfl rfl rfl hp (by unfold FU; omega)
        have te : tkE T n p = ev T n isDg p := by unfold tkE; rw [if_pos c, if_neg cl, if_pos cd]
        refine ⟨σ', r1, ⟨r3.1 505 (by decide), ?_, ?_, fun _ _ _ => ⟨?_, ?_⟩⟩, f1.tr (r3.up (by decide))⟩
        · rw [r3.1 504 (by decide)]; unfold tkK; rw [if_pos c, if_neg cl, if_pos cd]; rfl
        · rw [r2, te]; rfl
        · rw [r4, te]; rfl
        · rw [r5, te]; rfl
      · have d' : ¬ (48 ≤ T p ∧ T p ≤ 57) := fun z => cd (decide_eq_true z)
        rw [if_pos (by rw [show (48 : Int32) = nI 48 from rfl, show (57 : Int32) = nI 57 from rfl, liesN (by omega) (by omega) (by omega)]; exact d'), if_neg (neg1 (by omega)), bndE, bndE, show nI p + 1 = nI (p + 1) from nI_add _ 1]
        have f1 : Fr [503, 504, 505, 506, 507] [] [] σ (sF (sF (sF σ 505 (nI p)) 503 (nI (p + 1))) 504 (nI (T p))) := (f0.wF (by decide)).wF (by decide)
        have h2 := h.fr f1 (by decide)
        have nd : ∀ z, p < n → isLo (T p) = false → isDg (T p) = true → z := fun z _ _ w => absurd w cd
        unfold f_X4_advance_270
        rw [show gF (sF (sF (sF σ 505 (nI p)) 503 (nI (p + 1))) 504 (nI (T p))) 503 = nI (p + 1) from rfl, byteC h2 (by omega), bS]
        have e6 : (nI (T p) = 60) = (T p = 60) := nI_eqE (b := 60) (by omega) (by omega)
        have e2 : (nI (T p) = 62) = (T p = 62) := nI_eqE (b := 62) (by omega) (by omega)
        have fin : ∀ {σ' : St}, Fr [503, 504, 505, 506, 507] [] [] σ σ' → σ'.1 505 = nI p → σ'.1 504 = tkK T n p → σ'.1 503 = nI (tkE T n p) → Lx T n σ' p := fun _ a b c => ⟨a, b, c, nd _⟩
        by_cases s1 : T p = 60 ∨ T p = 62
        · by_cases s2 : p + 1 < n ∧ T (p + 1) = 61
          · have k1 : tkK T n p = nI (T p + 256) := by unfold tkK; rw [if_pos c, if_neg cl, if_neg cd, if_pos ⟨s1, s2⟩]
            have k2 : tkE T n p = p + 2 := by unfold tkE; rw [if_pos c, if_neg cl, if_neg cd, if_pos ⟨s1, s2⟩]
            have g : Fr [503, 504, 505, 506, 507] [] [] σ (sF (sF (sF (sF (sF σ 505 (nI p)) 503 (nI (p + 1))) 504 (nI (T p))) 503 (nI (p + 2))) 504 (nI (T p + 256))) := (f1.wF (by decide)).wF (by decide)
            refine ⟨_, ?_, fin g rfl (by rw [k1]; rfl) (by rw [k2]; rfl), g⟩
            rw [if_pos s2.1, s2.2, if_pos (show nI 61 = 61 from rfl), bndE, bndE, show nI (p + 1) + 1 = nI (p + 2) from nI_add _ 1, show nI (T p) + 256 = nI (T p + 256) from nI_add _ 256]
            rcases s1 with z | z
            · rw [if_pos (e6.mpr z)]
            · rw [if_neg (fun w => by have := e6.mp w; omega), if_pos (e2.mpr z)]
          · have k1 : tkK T n p = nI (T p) := by unfold tkK; rw [if_pos c, if_neg cl, if_neg cd, if_neg (fun z => s2 z.2)]
            have k2 : tkE T n p = p + 1 := by unfold tkE; rw [if_pos c, if_neg cl, if_neg cd, if_neg (fun z => s2 z.2)]
            refine ⟨_, ?_, fin f1 rfl (by rw [k1]; rfl) (by rw [k2]; rfl), f1⟩
            have hT1 := h.2.2.1 (p + 1)
            have n61 : ¬ (if p + 1 < n then nI (T (p + 1)) else -1) = (61 : Int32) := by
              by_cases q : p + 1 < n
              · rw [if_pos q, show (61 : Int32) = nI 61 from rfl, nI_eqE (by omega) (by omega)]; exact fun z => s2 ⟨q, z⟩
              · rw [if_neg q]; decide
            rw [if_neg n61]
            split
            · rfl
            · split <;> rfl
        · have k1 : tkK T n p = nI (T p) := by unfold tkK; rw [if_pos c, if_neg cl, if_neg cd, if_neg (fun z => s1 z.1)]
          have k2 : tkE T n p = p + 1 := by unfold tkE; rw [if_pos c, if_neg cl, if_neg cd, if_neg (fun z => s1 z.1)]
          refine ⟨_, ?_, fin f1 rfl (by rw [k1]; rfl) (by rw [k2]; rfl), f1⟩
          rw [if_neg (fun w => s1 (Or.inl (e6.mp w))), if_neg (fun w => s1 (Or.inr (e2.mp w)))]
  · rw [if_neg c, if_pos (by decide), if_pos (by decide), if_pos rfl, bndE]
    refine ⟨_, rfl, ⟨rfl, ?_, ?_, fun z => absurd z c⟩, f0.wF (by decide)⟩
    · unfold tkK; rw [if_neg c]; rfl
    · unfold tkE; rw [if_neg c]; exact e
set_option maxHeartbeats 200000 in
theorem adv0 : ∀ (k p f : Nat) (σ : St), TpC T n σ → σ.1 503 = nI p → n - p = k → p ≤ n → k < f → ∃ σ', f_X4_advance_0 f σ = some σ' ∧ Lx T n σ' (ev T n isSp p) ∧ Fr [503, 504, 505, 506, 507] [] [] σ σ' := by
  intro k
  induction k with
  | zero =>
    intro p f σ h e hk hp hf
    obtain ⟨f, rfl⟩ : ∃ q, f = q + 1 := ⟨f - 1, by omega⟩
    have h1 := h.1
    unfold f_X4_advance_0
    rw [show gF σ 502 = _ from h.2.1, show gF σ 503 = _ from e, if_pos (by rw [nI_leE (by omega) (by omega)]; omega), ev_no (by omega)]
    exact adv37 h e hp
  | succ k ih =>
    intro p f σ h e hk hp hf
    obtain ⟨f, rfl⟩ : ∃ q, f = q + 1 := ⟨f - 1, by omega⟩
    have h1 := h.1
    have hT := h.2.2.1 p
    unfold f_X4_advance_0
    rw [show gF σ 502 = _ from h.2.1, show gF σ 503 = _ from e, if_neg (by rw [nI_leE (by omega) (by omega)]; omega), byteC h (by omega), bS, if_pos (show p < n by omega)]
    have e3 : (nI (T p) = 32) = (T p = 32) := nI_eqE (b := 32) (by omega) (by omega)
    by_cases c : T p = 32
    · rw [if_pos (e3.mpr c), bndE, show nI p + 1 = nI (p + 1) from nI_add _ 1, ev_go (show p < n by omega) (decide_eq_true c)]
      have f1 : Fr [503, 504, 505, 506, 507] [] [] σ (sF σ 503 (nI (p + 1))) := Fr.rf.wF (by decide)
      obtain ⟨σ', r1, r2, r3⟩ := ih (p + 1) f _ (h.fr f1 (by decide)) rfl (by omega) (by omega) (by omega)
      exact ⟨σ', r1, r2, f1.tr r3⟩
    · rw [if_neg (fun w => c (e3.mp w)), ev_no (fun z => c (of_decide_eq_true z.2))]
      exact adv37 h e hp
set_option maxHeartbeats 200000 in
theorem advC {σ : St} (h : TpC T n σ) {p : Nat} (e : σ.1 503 = nI p) (hp : p ≤ n) : ∃ σ', f_X4_advance σ = some σ' ∧ Lx T n σ' (ev T n isSp p) ∧ Fr [503, 504, 505, 506, 507] [] [] σ σ' := adv0 (n - p) p FU σ h e rfl hp (by have := h.1; unfold FU; omega)
end TB
