/-! how both hold the statutes; being in force; the clause that tells -/
abbrev Cl := Nat × Int32 × Nat × Nat × Nat × Nat
abbrev Stt := Int32 × Nat × List Int32 × List Cl
def cl0 : Cl := (0, 0, 0, 0, 0, 0)
def stt0 : Stt := (0, 0, [], [])
def thM (t : Nat) : Nat := if t < 5 then t + 2 else if t = 5 then 0 else if t = 6 then 1 else t
def slc (l : List Int32) (a b : Nat) : List Int32 := (l.drop a).take (b - a)
def WS (l : List Int32) (a b : Nat) (t : Bool) : Prop := a ≤ b ∧ b ≤ l.length ∧ tyL (slc l a b) [] = some [t] ∧ pus (slc l a b) ≤ 80
def gS (L : List Stt) (s : Nat) : Stt := L.getD s stt0
def gC (S : Stt) (c : Nat) : Cl := S.2.2.2.getD c cl0
def rC1 (σ : St) (s k : Nat) (S : Stt) : Prop := σ.2.1 32 s = S.1 ∧ σ.2.1 33 s = nI S.2.1 ∧ σ.2.1 36 s = nI S.2.2.2.length ∧ (∀ o, o < S.2.2.1.length → σ.2.1 37 (k + o) = S.2.2.1.getD o 0) ∧ ∀ c, c < S.2.2.2.length → σ.2.1 38 (12 * s + c) = nI (gC S c).1 ∧ σ.2.1 39 (12 * s + c) = (gC S c).2.1 ∧ σ.2.1 40 (12 * s + c) = nI (gC S c).2.2.1 ∧ σ.2.1 41 (12 * s + c) = nI (k + (gC S c).2.2.2.1) ∧ σ.2.1 42 (12 * s + c) = nI (k + (gC S c).2.2.2.2.1) ∧ σ.2.1 43 (12 * s + c) = nI (k + (gC S c).2.2.2.2.2)
def rM1 (τ : St) (s : Nat) (S : Stt) : Prop := τ.2.1 19 s = S.1 ∧ τ.2.1 20 s = nI S.2.1 ∧ τ.2.1 21 s = nI S.2.2.2.length ∧ (∀ o, o < S.2.2.1.length → τ.2.1 28 (420 * s + o) = opM (S.2.2.1.getD o 0) ∧ τ.2.1 29 (420 * s + o) = agM (S.2.2.1.getD o 0)) ∧ ∀ c, c < S.2.2.2.length → τ.2.1 22 (12 * s + c) = nI (thM (gC S c).1) ∧ τ.2.1 23 (12 * s + c) = (gC S c).2.1 ∧ τ.2.1 27 (12 * s + c) = nI (gC S c).2.2.1 ∧ τ.2.1 24 (12 * s + c) = nI (gC S c).2.2.2.1 ∧ τ.2.1 25 (12 * s + c) = nI (gC S c).2.2.2.2.1 ∧ τ.2.1 26 (12 * s + c) = nI (gC S c).2.2.2.2.2
def wf1 (s : Nat) (S : Stt) : Prop := S.2.1 ≤ 8999 ∧ S.2.2.1.length ≤ 400 ∧ S.2.2.2.length ≤ 12 ∧ ∀ c, c < S.2.2.2.length → (gC S c).1 ≤ 7 ∧ (gC S c).2.2.1 ≤ 2 ∧ ((gC S c).1 = 5 ∨ (gC S c).1 = 6 → WS S.2.2.1 (gC S c).2.2.2.1 (gC S c).2.2.2.2.1 false) ∧ ((gC S c).2.2.1 ≠ 0 → WS S.2.2.1 (gC S c).2.2.2.2.1 (gC S c).2.2.2.2.2 true) ∧ ((gC S c).1 = 7 → ∃ N, N < s ∧ (gC S c).2.1 = nI N)
def fnd (p : Nat → Bool) : Nat → Nat → Option Nat
  | 0, _ => none
  | k + 1, i => if p i then some i else fnd p k (i + 1)
set_option maxHeartbeats 200000 in
theorem fnd_s (p : Nat → Bool) (k i : Nat) : fnd p (k + 1) i = if p i then some i else fnd p k (i + 1) := rfl
def stkB (S : Stt) (x : Int32) (c : Nat) : Bool := decide ((gC S c).1 = 7) && decide ((gC S c).2.1 = x)
def stks (S : Stt) (x : Int32) : Bool := (fnd (stkB S x) S.2.2.2.length 0).isSome
def sfN (L : List Stt) (s : Nat) : Nat → Nat
  | 0 => 9000
  | n + 1 => if stks (gS L n) (nI s) then min (sfN L s n) (gS L n).2.1 else sfN L s n
def kyL (L : List Stt) (s : Nat) : Int := -(16 * ((gS L s).2.1 : Int) + s)
def LawS (σ τ : St) (L : List Stt) (ks : Nat → Nat) (Ln : Nat) : Prop := L.length ≤ 12 ∧ σ.1 400 = nI L.length ∧ τ.1 25 = nI L.length ∧ σ.1 3799 = nI Ln ∧ Ln < 9000 ∧ (∀ s, s < L.length → rC1 σ s (ks s) (gS L s) ∧ rM1 τ s (gS L s) ∧ wf1 s (gS L s) ∧ ks s + (gS L s).2.2.1.length ≤ Ln) ∧ Rp (σ.2.1 35) (srt (kyL L) L.length) ∧ ∀ s, s < L.length → σ.2.1 34 s = nI (sfN L s L.length)
def frc (L : List Stt) (s m : Nat) : Bool := decide ((gS L s).2.1 ≤ m) && decide (m < sfN L s L.length)
set_option maxHeartbeats 200000 in
theorem sfN_lt {L : List Stt} {s m : Nat} (hm : m < 9000) : ∀ n, (m < sfN L s n ↔ ∀ j, j < n → stks (gS L j) (nI s) = true → m < (gS L j).2.1) := by
  intro n
  induction n with
  | zero => exact ⟨fun _ j hj => absurd hj (Nat.not_lt_zero _), fun _ => hm⟩
  | succ n ih =>
    unfold sfN
    constructor
    · intro h j hj hs
      by_cases e : j = n
      · rw [e] at hs ⊢
        rw [if_pos hs] at h
        omega
      · refine ih.mp ?_ j (by omega) hs
        split at h <;> omega
    · intro h
      have h1 := ih.mpr (fun j hj hs => h j (by omega) hs)
      split
      · next hs => have := h n (by omega) hs; omega
      · exact h1
def unst (L : List Stt) (s m : Nat) : Nat → Nat → Bool
  | 0, _ => true
  | n + 1, j => if (decide ((gS L j).2.1 ≤ m) && stks (gS L j) (nI s)) = true then false else unst L s m n (j + 1)
set_option maxHeartbeats 200000 in
theorem unst_s (L : List Stt) (s m n j : Nat) : unst L s m (n + 1) j = if (decide ((gS L j).2.1 ≤ m) && stks (gS L j) (nI s)) = true then false else unst L s m n (j + 1) := rfl
set_option maxHeartbeats 200000 in
theorem unst_iff {L : List Stt} {s m : Nat} : ∀ n j, (unst L s m n j = true ↔ ∀ i, j ≤ i → i < j + n → stks (gS L i) (nI s) = true → m < (gS L i).2.1) := by
  intro n
  induction n with
  | zero => intro j; exact ⟨fun _ i a b => by omega, fun _ => rfl⟩
  | succ n ih =>
    intro j
    rw [unst_s]
    by_cases e1 : (gS L j).2.1 ≤ m
    · rw [decide_eq_true e1, Bool.true_and]
      by_cases e2 : stks (gS L j) (nI s) = true
      · rw [if_pos e2]
        exact ⟨fun h => (by cases h), fun h => by have := h j (Nat.le_refl _) (by omega) e2; omega⟩
      · rw [if_neg e2, ih]
        refine ⟨fun h i hi hl hs => ?_, fun h i hi hl hs => h i (by omega) (by omega) hs⟩
        by_cases e : i = j
        · rw [e] at hs; exact absurd hs e2
        · exact h i (by omega) (by omega) hs
    · rw [decide_eq_false e1, Bool.false_and, if_neg (by decide), ih]
      refine ⟨fun h i hi hl hs => ?_, fun h i hi hl hs => h i (by omega) (by omega) hs⟩
      by_cases e : i = j
      · rw [e]; omega
      · exact h i (by omega) (by omega) hs
section Stand
variable {σ τ : St} {L : List Stt} {ks : Nat → Nat} {Ln : Nat}
set_option maxHeartbeats 200000 in
theorem has_eq (H : LawS σ τ L ks Ln) {s : Nat} (hs : s < 1000) : f_X2_has (nI s) σ = if s < L.length then 1 else 0 := by
  obtain ⟨h1, h2, -⟩ := H
  unfold f_X2_has f_X2_has_16
  rw [if_neg (by rw [nI_lt0 (by omega)]; exact fun h => h), show gF σ 400 = nI L.length from h2]
  by_cases c : s < L.length
  · rw [if_neg (by rw [nI_leE (by omega) (by omega)]; omega), if_pos c]
  · rw [if_pos (by rw [nI_leE (by omega) (by omega)]; omega), if_neg c]
set_option maxHeartbeats 200000 in
theorem stands_eq (H : LawS σ τ L ks Ln) {s m : Nat} (hs : s < L.length) (hm : m < 9000) : f_X2_stands (nI s) (nI m) σ = some (if frc L s m then 1 else 0) := by
  have h0 := H
  obtain ⟨h1, h2, h3, h4, h5, h6, h7, h8⟩ := H
  obtain ⟨⟨a1, a2, a3, a4, a5⟩, b, c, d⟩ := h6 s hs
  have c1 : (gS L s).2.1 ≤ 8999 := c.1
  have sl : sfN L s L.length ≤ 9000 := by
    have : ∀ n, sfN L s n ≤ 9000 := by
      intro n
      induction n with
      | zero => exact Nat.le_refl _
      | succ n ih => unfold sfN; split <;> omega
    exact this _
  unfold f_X2_stands f_X2_stands_32
  rw [has_eq h0 (by omega), if_pos hs, if_neg (by decide), rdC_33 (by omega), bS, a2, rdC_34 (by omega), bS, h8 s hs]
  unfold frc
  by_cases e1 : (gS L s).2.1 ≤ m
  · rw [if_neg (by rw [nI_ltE (by omega) (by omega)]; omega)]
    by_cases e2 : m < sfN L s L.length
    · rw [if_neg (by rw [nI_leE (by omega) (by omega)]; omega), decide_eq_true e1, decide_eq_true e2]; rfl
    · rw [if_pos (by rw [nI_leE (by omega) (by omega)]; omega), decide_eq_false e2, Bool.and_false]; rfl
  · rw [if_pos (by rw [nI_ltE (by omega) (by omega)]; omega), decide_eq_false e1]; rfl
set_option maxHeartbeats 200000 in
theorem force_41 (H : LawS σ τ L ks Ln) {x1 x2 : Int32} {s : Nat} (hs : s < L.length) (k : Int32 → Option Int32) : ∀ (n c f : Nat), c + n = (gS L s).2.2.2.length → n < f → f_X11_isInForce_41 x1 x2 (nI s) τ k f (nI (12 * s + c)) = if (fnd (stkB (gS L s) x1) n c).isSome then some 0 else k (nI (s + 1)) := by
  have h0 := H
  obtain ⟨h1, h2, h3, h4, h5, h6, h7, h8⟩ := H
  obtain ⟨a, ⟨b1, b2, b3, b4, b5⟩, ⟨c1, c2, c3, c4⟩, d⟩ := h6 s hs
  intro n
  induction n with
  | zero =>
    intro c f hc hf
    obtain ⟨f, rfl⟩ : ∃ q, f = q + 1 := ⟨f - 1, by omega⟩
    unfold f_X11_isInForce_41 f_X11_isInForce_88
    rw [rdM_21 (by omega), bS, b3, show (12 : Int32) * nI s + nI (gS L s).2.2.2.length = nI (12 * s + (gS L s).2.2.2.length) from ixc 12 _ _, if_pos (by rw [nI_leE (by omega) (by omega)]; omega), bndE, show nI s + 1 = nI (s + 1) from nI_add s 1]
    rfl
  | succ n ih =>
    intro c f hc hf
    obtain ⟨f, rfl⟩ : ∃ q, f = q + 1 := ⟨f - 1, by omega⟩
    have hb := b5 c (by omega)
    have t7 := (c4 c (by omega)).1
    have ih := ih (c + 1) f (by omega) (by omega)
    rw [show 12 * s + (c + 1) = 12 * s + c + 1 by omega] at ih
    unfold f_X11_isInForce_41 f_X11_isInForce_82
    rw [rdM_21 (by omega), bS, b3, show (12 : Int32) * nI s + nI (gS L s).2.2.2.length = nI (12 * s + (gS L s).2.2.2.length) from ixc 12 _ _, if_neg (by rw [nI_leE (by omega) (by omega)]; omega), rdM_22 (by omega), bS, hb.1, rdM_23 (by omega), bS, hb.2.1, bndE, show nI (12 * s + c) + 1 = nI (12 * s + c + 1) from nI_add _ 1, ih]
    have t8 : (nI (thM (gC (gS L s) c).1) = 7) = ((gC (gS L s) c).1 = 7) := by
      rw [show (7 : Int32) = nI 7 from rfl, nI_eqE (by unfold thM; split <;> (try split) <;> (try split) <;> omega) (by omega)]
      refine propext ⟨fun h => ?_, fun h => by rw [h]; rfl⟩
      unfold thM at h
      split at h
      · omega
      · split at h
        · omega
        · split at h <;> omega
    rw [fnd_s]
    have st : stkB (gS L s) x1 c = (decide ((gC (gS L s) c).1 = 7) && decide ((gC (gS L s) c).2.1 = x1)) := rfl
    by_cases e1 : (gC (gS L s) c).1 = 7
    · rw [if_pos (t8.mpr e1)]
      by_cases e2 : (gC (gS L s) c).2.1 = x1
      · rw [if_pos e2, st, decide_eq_true e1, decide_eq_true e2]; rfl
      · rw [if_neg e2, st, decide_eq_false e2, Bool.and_false]; rfl
    · rw [if_neg (fun h => e1 (t8.mp h)), st, decide_eq_false e1]; rfl
set_option maxHeartbeats 200000 in
theorem force_14 (H : LawS σ τ L ks Ln) {s m : Nat} (hm : m < 9000) : ∀ (n j f : Nat), j + n = L.length → n < f → f_X11_isInForce_14 (nI s) (nI m) τ f (nI j) = some (if unst L s m n j then 1 else 0) := by
  have h0 := H
  obtain ⟨h1, h2, h3, h4, h5, h6, h7, h8⟩ := H
  intro n
  induction n with
  | zero =>
    intro j f hj hf
    obtain ⟨f, rfl⟩ : ∃ q, f = q + 1 := ⟨f - 1, by omega⟩
    unfold f_X11_isInForce_14
    rw [show gF τ 25 = nI L.length from h3, if_pos (by rw [nI_leE (by omega) (by omega)]; omega)]; rfl
  | succ n ih =>
    intro j f hj hf
    obtain ⟨f, rfl⟩ : ∃ q, f = q + 1 := ⟨f - 1, by omega⟩
    have ih := ih (j + 1) f (by omega) (by omega)
    obtain ⟨a, ⟨b1, b2, b3, b4, b5⟩, ⟨c1, c2, c3, c4⟩, d⟩ := h6 j (by omega)
    unfold f_X11_isInForce_14 f_X11_isInForce_88
    rw [show gF τ 25 = nI L.length from h3, if_neg (by rw [nI_leE (by omega) (by omega)]; omega), rdM_20 (by omega), bS, b2, bndE, bndE, show nI j + 1 = nI (j + 1) from nI_add _ 1, show (12 : Int32) * nI j = nI (12 * j + 0) by rw [show (12 : Int32) = nI 12 from rfl, pk_mul]; rfl, force_41 h0 (by omega) _ (gS L j).2.2.2.length 0 FU (by omega) (by unfold FU; omega), ih]
    rw [unst_s]
    by_cases e1 : (gS L j).2.1 ≤ m
    · rw [if_pos (by rw [nI_leE (by omega) (by omega)]; exact e1), decide_eq_true e1, Bool.true_and]
      by_cases e2 : stks (gS L j) (nI s) = true
      · rw [if_pos (show (fnd (stkB (gS L j) (nI s)) (gS L j).2.2.2.length 0).isSome = true from e2), if_pos e2]; rfl
      · rw [if_neg (show ¬ (fnd (stkB (gS L j) (nI s)) (gS L j).2.2.2.length 0).isSome = true from e2), if_neg e2]
    · rw [if_neg (by rw [nI_leE (by omega) (by omega)]; exact e1), decide_eq_false e1, Bool.false_and, if_neg (show ¬ false = true by decide)]
set_option maxHeartbeats 200000 in
theorem force_eq (H : LawS σ τ L ks Ln) {s m : Nat} (hs : s < L.length) (hm : m < 9000) : f_X11_isInForce (nI s) (nI m) τ = some (if frc L s m then 1 else 0) := by
  have h0 := H
  obtain ⟨h1, h2, h3, h4, h5, h6, h7, h8⟩ := H
  obtain ⟨a, ⟨b1, b2, b3, b4, b5⟩, ⟨c1, c2, c3, c4⟩, d⟩ := h6 s hs
  unfold f_X11_isInForce
  rw [rdM_20 (by omega), bS, b2, show f_X11_isInForce_14 (nI s) (nI m) τ FU 0 = _ from force_14 h0 hm L.length 0 FU (by omega) (by unfold FU; omega)]
  unfold frc
  by_cases e1 : (gS L s).2.1 ≤ m
  · rw [if_pos (by rw [nI_leE (by omega) (by omega)]; exact e1), decide_eq_true e1, Bool.true_and]
    congr 1
    by_cases e2 : m < sfN L s L.length
    · rw [decide_eq_true e2, if_pos ((unst_iff _ _).mpr (fun i _ hi => (sfN_lt hm _).mp e2 i (by omega)))]; rfl
    · rw [decide_eq_false e2, if_neg (fun h => e2 ((sfN_lt hm _).mpr (fun i hi => (unst_iff _ _).mp h i (Nat.zero_le _) (by omega))))]; rfl
  · rw [if_neg (by rw [nI_leE (by omega) (by omega)]; exact e1), decide_eq_false e1]; rfl
end Stand
