/-! the text on the tape: bytes, runs, tokens; the class's advance -/
def adv (T : Nat → Nat) (n : Nat) (q : Nat → Bool) : Nat → Nat → Nat
  | 0, p => p
  | k + 1, p => if p < n ∧ q (T p) = true then adv T n q k (p + 1) else p
def ev (T : Nat → Nat) (n : Nat) (q : Nat → Bool) (p : Nat) : Nat := adv T n q (n - p) p
set_option maxHeartbeats 200000 in
theorem ev_go {T : Nat → Nat} {n : Nat} {q : Nat → Bool} {p : Nat} (h : p < n) (hq : q (T p) = true) : ev T n q p = ev T n q (p + 1) := by
  unfold ev
  obtain ⟨k, hk⟩ : ∃ k, n - p = k + 1 := ⟨n - p - 1, by omega⟩
  rw [hk, show n - (p + 1) = k by omega]
  exact if_pos ⟨h, hq⟩
set_option maxHeartbeats 200000 in
theorem ev_no {T : Nat → Nat} {n : Nat} {q : Nat → Bool} {p : Nat} (h : ¬ (p < n ∧ q (T p) = true)) : ev T n q p = p := by
  unfold ev
  cases hk : n - p with
  | zero => rfl
  | succ k => exact if_neg h
set_option maxHeartbeats 200000 in
theorem ev_ge {T : Nat → Nat} {n : Nat} {q : Nat → Bool} : ∀ (k p : Nat), n - p = k → p ≤ ev T n q p ∧ (p ≤ n → ev T n q p ≤ n) ∧ ¬ (ev T n q p < n ∧ q (T (ev T n q p)) = true) := by
  intro k
  induction k with
  | zero => intro p hp; rw [ev_no (by omega)]; exact ⟨Nat.le_refl _, fun h => h, by omega⟩
  | succ k ih =>
    intro p hp
    by_cases c : p < n ∧ q (T p) = true
    · rw [ev_go c.1 c.2]
      have := ih (p + 1) (by omega)
      exact ⟨by omega, fun _ => this.2.1 (by omega), this.2.2⟩
    · rw [ev_no c]; exact ⟨Nat.le_refl _, fun h => h, c⟩
def isSp (c : Nat) : Bool := decide (c = 32)
def isLo (c : Nat) : Bool := decide (97 ≤ c ∧ c ≤ 122)
def isDg (c : Nat) : Bool := decide (48 ≤ c ∧ c ≤ 57)
def nvl (T : Nat → Nat) (s : Nat) : Nat → Nat
  | 0 => 0
  | k + 1 => if k < 5 then 10 * nvl T s k + (T (s + k) - 48) else nvl T s k
def tkE (T : Nat → Nat) (n p : Nat) : Nat := if p < n then (if isLo (T p) = true then ev T n isLo p else if isDg (T p) = true then ev T n isDg p else if (T p = 60 ∨ T p = 62) ∧ p + 1 < n ∧ T (p + 1) = 61 then p + 2 else p + 1) else p
def tkK (T : Nat → Nat) (n p : Nat) : Int32 := if p < n then (if isLo (T p) = true then -2 else if isDg (T p) = true then -3 else if (T p = 60 ∨ T p = 62) ∧ p + 1 < n ∧ T (p + 1) = 61 then nI (T p + 256) else nI (T p)) else -1
def Lx (T : Nat → Nat) (n : Nat) (σ : St) (p : Nat) : Prop := σ.1 505 = nI p ∧ σ.1 504 = tkK T n p ∧ σ.1 503 = nI (tkE T n p) ∧ (p < n → isLo (T p) = false → isDg (T p) = true → σ.1 506 = nI (nvl T p (tkE T n p - p)) ∧ σ.1 507 = nI (tkE T n p - p))
def TpC (T : Nat → Nat) (n : Nat) (σ : St) : Prop := n ≤ 400 ∧ σ.1 502 = nI n ∧ (∀ i, T i < 256) ∧ ∀ i, σ.2.1 45 i = nI (T i)
set_option maxHeartbeats 200000 in
theorem TpC.fr {T : Nat → Nat} {n : Nat} {σ σ' : St} {Ks As Ls : List Nat} (h : TpC T n σ) (f : Fr Ks As Ls σ σ') (d : 502 ∉ Ks ∧ 45 ∉ As) : TpC T n σ' := ⟨h.1, (f.1 502 d.1).trans h.2.1, h.2.2.1, fun i => by rw [f.2.1 45 d.2]; exact h.2.2.2 i⟩
section TA
variable {T : Nat → Nat} {n : Nat}
set_option maxHeartbeats 200000 in
theorem byteC {σ : St} (h : TpC T n σ) {p : Nat} (hp : p < 100000) : f_X4_byteAt (nI p) σ = some (if p < n then nI (T p) else -1) := by
  obtain ⟨h1, h2, h3, h4⟩ := h
  unfold f_X4_byteAt f_X4_byteAt_30
  rw [if_neg (by rw [nI_lt0 (by omega)]; exact fun h => h), show gF σ 502 = _ from h2]
  by_cases c : p < n
  · rw [if_neg (by rw [nI_leE (by omega) (by omega)]; omega), if_neg (show ¬ (400 : Int32) ≤ nI p from by rw [show (400 : Int32) = nI 400 from rfl, nI_leE (by omega) (by omega)]; omega), rdC_45 (by omega), bS, h4, if_pos c]
  · rw [if_pos (by rw [nI_leE (by omega) (by omega)]; omega), if_neg c]
set_option maxHeartbeats 200000 in
theorem liesN {c a b : Nat} (hc : c < 1000) (ha : a < 1000) (hb : b < 1000) : (f_X10_lies (nI c) (nI a) (nI b) = 0) = ¬ (a ≤ c ∧ c ≤ b) := by
  rw [lies0, nI_toInt (show c < 2 ^ 31 by omega), nI_toInt (show a < 2 ^ 31 by omega), nI_toInt (show b < 2 ^ 31 by omega)]
  exact propext ⟨fun h z => h (by omega), fun h z => h (by omega)⟩
set_option maxHeartbeats 200000 in
theorem runLo : ∀ (k p f : Nat) (σ : St), TpC T n σ → σ.1 503 = nI p → n - p = k → p ≤ n → k < f → ∃ σ', f_X4_advance_71 f σ = some σ' ∧ σ'.1 503 = nI (ev T n isLo p) ∧ Fr [503] [] [] σ σ' := by
  intro k
  induction k with
  | zero =>
    intro p f σ h e hk hp hf
    obtain ⟨f, rfl⟩ : ∃ q, f = q + 1 := ⟨f - 1, by omega⟩
    have h1 := h.1
    refine ⟨σ, ?_, by rw [ev_no (by omega)]; exact e, Fr.rf⟩
    unfold f_X4_advance_71
    rw [show gF σ 502 = _ from h.2.1, show gF σ 503 = _ from e, if_pos (by rw [nI_leE (by omega) (by omega)]; omega)]
  | succ k ih =>
    intro p f σ h e hk hp hf
    obtain ⟨f, rfl⟩ : ∃ q, f = q + 1 := ⟨f - 1, by omega⟩
    have h1 := h.1
    have hT := h.2.2.1 p
    unfold f_X4_advance_71
    rw [show gF σ 502 = _ from h.2.1, show gF σ 503 = _ from e, if_neg (by rw [nI_leE (by omega) (by omega)]; omega), byteC h (by omega), bS, if_pos (show p < n by omega)]
    by_cases c : isLo (T p) = true
    · have c' : 97 ≤ T p ∧ T p ≤ 122 := of_decide_eq_true c
      rw [if_neg (by rw [show (97 : Int32) = nI 97 from rfl, show (122 : Int32) = nI 122 from rfl, liesN (by omega) (by omega) (by omega)]; exact not_not_intro c'), bndE, show nI p + 1 = nI (p + 1) from nI_add _ 1]
      have f1 : Fr [503] [] [] σ (sF σ 503 (nI (p + 1))) := Fr.rf.wF (by decide)
      obtain ⟨σ', r1, r2, r3⟩ := ih (p + 1) f (sF σ 503 (nI (p + 1))) (h.fr f1 (by decide)) rfl (by omega) (by omega) (by omega)
      exact ⟨σ', r1, by rw [r2, ev_go (show p < n by omega) c], f1.tr r3⟩
    · have c' : ¬ (97 ≤ T p ∧ T p ≤ 122) := fun z => c (decide_eq_true z)
      rw [if_pos (by rw [show (97 : Int32) = nI 97 from rfl, show (122 : Int32) = nI 122 from rfl, liesN (by omega) (by omega) (by omega)]; exact c')]
      exact ⟨σ, rfl, by rw [ev_no (fun z => c z.2)]; exact e, Fr.rf⟩
end TA
