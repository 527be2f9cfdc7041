/-! clauses, read plainly -/
abbrev CS := PS × List Cl
abbrev CT := Nat ⊕ CS
def bnC (r : PR) (k : PS → CT) : CT := match r with
  | .inl f => .inl f
  | .inr s => k s
def whn (T : Nat → Nat) (n p : Nat) : Option Nat := fnd (fun j => wdB T n p (wl_ (5 + j))) 5 0
def aCond (T : Nat → Nat) (n : Nat) (cs : List Cl) (t : Nat) (y : Int32) (a : Nat) (s : PS) : CT :=
  if wdB T n s.1 (wl_ 10) = true then bnC (AG T n 120 0 0 (stp T n s)) (fun s2 => .inr (s2, cs ++ [(t, y, 1, a, s.2.2.length, s2.2.2.length)]))
  else if wdB T n s.1 (wl_ 11) = true then bnC (AG T n 120 0 0 (stp T n s)) (fun s2 => .inr (s2, cs ++ [(t, y, 2, a, s.2.2.length, s2.2.2.length)]))
  else .inr (s, cs ++ [(t, y, 0, a, s.2.2.length, s.2.2.length)])
def aSumC (T : Nat → Nat) (n t : Nat) (c : CS) : CT := bnC (AG T n 120 4 0 (stp T n c.1)) (fun s1 => aCond T n c.2 t 0 c.1.2.2.length s1)
def aWhat (T : Nat → Nat) (n : Nat) (y : Int32) (c : CS) : CT := match whn T n (nx T n c.1.1) with
  | none => .inl (1 + 8 * nx T n c.1.1 + 0)
  | some j => aCond T n c.2 j y c.1.2.2.length (stp T n (stp T n c.1))
def aStrk (T : Nat → Nat) (n : Nat) (own : Nat → Bool) (c : CS) : CT :=
  if nx T n c.1.1 < n ∧ isDg (T (nx T n c.1.1)) = true then
    (if tkE T n (nx T n c.1.1) - nx T n c.1.1 ≤ 5 ∧ own (nvl T (nx T n c.1.1) (tkE T n (nx T n c.1.1) - nx T n c.1.1)) = true then
      .inr (stp T n (stp T n c.1), c.2 ++ [(7, nI (nvl T (nx T n c.1.1) (tkE T n (nx T n c.1.1) - nx T n c.1.1)), 0, c.1.2.2.length, c.1.2.2.length, c.1.2.2.length)])
    else .inl (1 + 8 * nx T n c.1.1 + 1))
  else .inl (1 + 8 * nx T n c.1.1 + 0)
def aClause (T : Nat → Nat) (n : Nat) (own : Nat → Bool) (c : CS) : CT :=
  if wdB T n c.1.1 (wl_ 0) = true then (if c.2.length < 12 then aSumC T n 5 c else .inl (1 + 8 * c.1.1 + 4))
  else if wdB T n c.1.1 (wl_ 1) = true then (if c.2.length < 12 then aSumC T n 6 c else .inl (1 + 8 * c.1.1 + 4))
  else if wdB T n c.1.1 (wl_ 2) = true then (if c.2.length < 12 then aStrk T n own c else .inl (1 + 8 * c.1.1 + 4))
  else if wdB T n c.1.1 (wl_ 3) = true then (if c.2.length < 12 then aWhat T n 1 c else .inl (1 + 8 * c.1.1 + 4))
  else if wdB T n c.1.1 (wl_ 4) = true then (if c.2.length < 12 then aWhat T n 0 c else .inl (1 + 8 * c.1.1 + 4))
  else .inl (1 + 8 * c.1.1 + 0)
def aText (T : Nat → Nat) (n : Nat) (own : Nat → Bool) : Nat → CS → CT
  | 0, c => .inr c
  | k + 1, c => match aClause T n own c with
    | .inl f => .inl f
    | .inr c' => if sym T n c'.1.1 59 = true then aText T n own k (stp T n c'.1, c'.2) else if c'.1.1 < n then .inl (1 + 8 * c'.1.1 + 0) else .inr c'
def wfC (own : Nat → Bool) (l : List Int32) (C : Cl) : Prop := C.1 ≤ 7 ∧ C.2.2.1 ≤ 2 ∧ (C.1 = 5 ∨ C.1 = 6 → WS l C.2.2.2.1 C.2.2.2.2.1 false) ∧ (C.2.2.1 ≠ 0 → WS l C.2.2.2.2.1 C.2.2.2.2.2 true) ∧ (C.1 = 7 → ∃ N, own N = true ∧ C.2.1 = nI N)
set_option maxHeartbeats 200000 in
theorem bnC_inr {r : PR} {k : PS → CT} {c : CS} (h : bnC r k = .inr c) : ∃ s1, r = .inr s1 ∧ k s1 = .inr c := by
  cases r with
  | inl f => cases h
  | inr s => exact ⟨s, rfl, h⟩
set_option maxHeartbeats 200000 in
theorem slc_mid (x c : List Int32) : slc (x ++ c) x.length (x ++ c).length = c := by
  unfold slc
  rw [List.drop_left, List.length_append, Nat.add_sub_cancel_left, List.take_length]
set_option maxHeartbeats 200000 in
theorem WS.app {l : List Int32} {a b : Nat} {t : Bool} (h : WS l a b t) (m : List Int32) : WS (l ++ m) a b t := by
  obtain ⟨h1, h2, h3, h4⟩ := h
  have e : slc (l ++ m) a b = slc l a b := by
    unfold slc
    rw [List.drop_append_of_le_length (by omega), List.take_append_of_le_length (by rw [List.length_drop]; omega)]
  refine ⟨h1, by rw [List.length_append]; omega, by rw [e]; exact h3, by rw [e]; exact h4⟩
set_option maxHeartbeats 200000 in
theorem wfC.app {own : Nat → Bool} {l : List Int32} {C : Cl} (h : wfC own l C) (m : List Int32) : wfC own (l ++ m) C := ⟨h.1, h.2.1, fun z => (h.2.2.1 z).app m, fun z => (h.2.2.2.1 z).app m, h.2.2.2.2⟩
set_option maxHeartbeats 200000 in
theorem OkR.ws {n : Nat} {b : Bool} {s s' : PS} (h : OkR n b s s') : WS s'.2.2 s.2.2.length s'.2.2.length b := by
  obtain ⟨h1, h2, h3, c, e, l, m, t⟩ := h
  have e2 := slc_mid s.2.2 c
  rw [← e] at e2
  exact ⟨by rw [e, List.length_append]; omega, Nat.le_refl _, by rw [e2]; exact t [], by rw [e2]; omega⟩
def OkC (n : Nat) (own : Nat → Bool) (c c' : CS) : Prop := GdR n c'.1 ∧ c.1.1 < c'.1.1 ∧ (∃ m, c'.1.2.2 = c.1.2.2 ++ m) ∧ ∃ C, c'.2 = c.2 ++ [C] ∧ wfC own c'.1.2.2 C
section CA
variable {T : Nat → Nat} {n : Nat} {own : Nat → Bool}
set_option maxHeartbeats 200000 in
theorem cond_ok (hT : ∀ i, T i < 256) {cs : List Cl} {t a : Nat} {y : Int32} {s : PS} {c' : CS} (g : GdR n s) (ht : t ≤ 6) (hw : t = 5 ∨ t = 6 → WS s.2.2 a s.2.2.length false) (h : aCond T n cs t y a s = .inr c') : GdR n c'.1 ∧ s.1 ≤ c'.1.1 ∧ (∃ m, c'.1.2.2 = s.2.2 ++ m) ∧ ∃ C, c'.2 = cs ++ [C] ∧ wfC own c'.1.2.2 C := by
  have nb := nx_b (T := T) (n := n) g.1
  have gs1 : GdR n (stp T n s) := ⟨nb.1, Nat.le_trans g.2.1 nb.2.1, g.2.2⟩
  have two : ∀ z, (z = 1 ∨ z = 2) → bnC (AG T n 120 0 0 (stp T n s)) (fun s2 => .inr (s2, cs ++ [(t, y, z, a, s.2.2.length, s2.2.2.length)])) = .inr c' → GdR n c'.1 ∧ s.1 ≤ c'.1.1 ∧ (∃ m, c'.1.2.2 = s.2.2 ++ m) ∧ ∃ C, c'.2 = cs ++ [C] ∧ wfC own c'.1.2.2 C := by
    intro z hz e
    obtain ⟨s2, e1, e2⟩ := bnC_inr e
    cases e2
    have o := AG_ok (n := n) hT 120 0 0 _ s2 (by omega) (by omega) (by omega) gs1.1 gs1.2.2 e1
    have w := o.ws
    have p1 : nx T n s.1 < s2.1 := o.1
    obtain ⟨-, -, -, m, em, -⟩ := id o
    refine ⟨o.gd gs1, by show s.1 ≤ s2.1; omega, ⟨m, em⟩, _, rfl, show t ≤ 7 by omega, show z ≤ 2 by omega, fun q => ?_, fun _ => w, fun q => absurd (show t = 7 from q) (by omega)⟩
    show WS s2.2.2 a s.2.2.length false
    rw [em]
    exact (hw q).app m
  unfold aCond at h
  by_cases c1 : wdB T n s.1 (wl_ 10) = true
  · rw [if_pos c1] at h; exact two 1 (Or.inl rfl) h
  · rw [if_neg c1] at h
    by_cases c2 : wdB T n s.1 (wl_ 11) = true
    · rw [if_pos c2] at h; exact two 2 (Or.inr rfl) h
    · rw [if_neg c2] at h
      cases h
      exact ⟨g, Nat.le_refl _, ⟨[], (List.append_nil _).symm⟩, _, rfl, show t ≤ 7 by omega, show 0 ≤ 2 by omega, hw, fun q => absurd rfl q, fun q => absurd (show t = 7 from q) (by omega)⟩
set_option maxHeartbeats 200000 in
theorem clause_ok (hT : ∀ i, T i < 256) {c c' : CS} (g : GdR n c.1) (h : aClause T n own c = .inr c') : c.2.length < 12 ∧ OkC n own c c' := by
  have nb := nx_b (T := T) (n := n) g.1
  have gs1 : GdR n (stp T n c.1) := ⟨nb.1, Nat.le_trans g.2.1 nb.2.1, g.2.2⟩
  have nb2 := nx_b (T := T) (n := n) gs1.1
  have gs2 : GdR n (stp T n (stp T n c.1)) := ⟨nb2.1, Nat.le_trans gs1.2.1 nb2.2.1, g.2.2⟩
  have sm : ∀ t, (t = 5 ∨ t = 6) → aSumC T n t c = .inr c' → OkC n own c c' := by
    intro t ht e
    obtain ⟨s1, e1, e2⟩ := bnC_inr e
    have o := AG_ok (n := n) hT 120 4 0 _ s1 (by omega) (by omega) (by omega) gs1.1 gs1.2.2 e1
    have w := o.ws
    have p1 : nx T n c.1.1 < s1.1 := o.1
    obtain ⟨k1, k2, ⟨m, k3⟩, k4⟩ := cond_ok (own := own) hT (o.gd gs1) (by omega) (fun _ => w) e2
    obtain ⟨-, -, -, m', em, -⟩ := id o
    exact ⟨k1, by omega, ⟨m' ++ m, by rw [k3, em, List.append_assoc]; rfl⟩, k4⟩
  have wh : ∀ y, aWhat T n y c = .inr c' → OkC n own c c' := by
    intro y e
    unfold aWhat at e
    cases q : whn T n (nx T n c.1.1) with
    | none => rw [q] at e; cases e
    | some j =>
      rw [q] at e
      obtain ⟨-, w2, w3⟩ := fnd_lt q
      have p2 := nb2.2.2 (wdB_lt w3)
      have p2 : nx T n c.1.1 < nx T n (nx T n c.1.1) := p2
      obtain ⟨k1, k2, k3, k4⟩ := cond_ok (own := own) hT gs2 (by omega) (fun z => by omega) e
      have k2 : nx T n (nx T n c.1.1) ≤ c'.1.1 := k2
      exact ⟨k1, by omega, k3, k4⟩
  have sk : aStrk T n own c = .inr c' → OkC n own c c' := by
    intro e
    unfold aStrk at e
    by_cases q : nx T n c.1.1 < n ∧ isDg (T (nx T n c.1.1)) = true
    · rw [if_pos q] at e
      by_cases q2 : tkE T n (nx T n c.1.1) - nx T n c.1.1 ≤ 5 ∧ own (nvl T (nx T n c.1.1) (tkE T n (nx T n c.1.1) - nx T n c.1.1)) = true
      · rw [if_pos q2] at e
        cases e
        have p2 := nb2.2.2 q.1
        have p2 : nx T n c.1.1 < nx T n (nx T n c.1.1) := p2
        exact ⟨gs2, by show c.1.1 < nx T n (nx T n c.1.1); omega, ⟨[], (List.append_nil _).symm⟩, _, rfl, Nat.le_refl _, show 0 ≤ 2 by omega, fun z => absurd (show 7 = 5 ∨ 7 = 6 from z) (by omega), fun z => absurd rfl z, fun _ => ⟨_, q2.2, rfl⟩⟩
      · rw [if_neg q2] at e; cases e
    · rw [if_neg q] at e; cases e
  have lim : ∀ (X : CT) (f : Nat), (X = .inr c' → OkC n own c c') → (if c.2.length < 12 then X else .inl f) = .inr c' → c.2.length < 12 ∧ OkC n own c c' := by
    intro X f hX e
    by_cases q : c.2.length < 12
    · rw [if_pos q] at e; exact ⟨q, hX e⟩
    · rw [if_neg q] at e; cases e
  unfold aClause at h
  by_cases c0 : wdB T n c.1.1 (wl_ 0) = true
  · rw [if_pos c0] at h; exact lim _ _ (sm 5 (Or.inl rfl)) h
  · rw [if_neg c0] at h
    by_cases c1 : wdB T n c.1.1 (wl_ 1) = true
    · rw [if_pos c1] at h; exact lim _ _ (sm 6 (Or.inr rfl)) h
    · rw [if_neg c1] at h
      by_cases c2 : wdB T n c.1.1 (wl_ 2) = true
      · rw [if_pos c2] at h; exact lim _ _ sk h
      · rw [if_neg c2] at h
        by_cases c3 : wdB T n c.1.1 (wl_ 3) = true
        · rw [if_pos c3] at h; exact lim _ _ (wh 1) h
        · rw [if_neg c3] at h
          by_cases c4 : wdB T n c.1.1 (wl_ 4) = true
          · rw [if_pos c4] at h; exact lim _ _ (wh 0) h
          · rw [if_neg c4] at h; cases h
def TxI (n : Nat) (own : Nat → Bool) (c : CS) : Prop := GdR n c.1 ∧ c.2.length ≤ 12 ∧ ∀ C ∈ c.2, wfC own c.1.2.2 C
set_option maxHeartbeats 200000 in
theorem TxI.step (hT : ∀ i, T i < 256) {c c' : CS} (i : TxI n own c) (h : aClause T n own c = .inr c') : TxI n own c' ∧ c'.2.length = c.2.length + 1 := by
  obtain ⟨i1, i2, i3⟩ := i
  obtain ⟨l, k1, k2, ⟨m, k3⟩, C, k4, k5⟩ := clause_ok hT i1 h
  have e : c'.2.length = c.2.length + 1 := by rw [k4, List.length_append]; rfl
  refine ⟨⟨k1, by omega, fun D hD => ?_⟩, e⟩
  rw [k4] at hD
  rcases List.mem_append.mp hD with z | z
  · rw [k3]; exact (i3 D z).app m
  · rw [List.mem_singleton.mp z]; exact k5
end CA
