/-! what plain descent gives: places, room, kinds -/
set_option maxHeartbeats 200000 in
theorem tyL_app : ∀ (a b : List Int32) (st : List Bool), tyL (a ++ b) st = (tyL a st).bind (tyL b) := by
  intro a
  induction a with
  | nil => intro b st; rfl
  | cons v r ih =>
    intro b st
    show (tyS v st).bind (tyL (r ++ b)) = ((tyS v st).bind (tyL r)).bind (tyL b)
    cases tyS v st with
    | none => rfl
    | some t => exact ih b t
set_option maxHeartbeats 200000 in
theorem pus_app : ∀ (a b : List Int32), pus (a ++ b) = pus a + pus b := by
  intro a b
  induction a with
  | nil => exact (Nat.zero_add _).symm
  | cons v r ih =>
    show (if -10 < v then 1 else 0) + pus (r ++ b) = (if -10 < v then 1 else 0) + pus r + pus b
    rw [ih, Nat.add_assoc]
def OkR (n : Nat) (b : Bool) (s s' : PS) : Prop := s.1 < s'.1 ∧ s'.1 ≤ n ∧ s'.2.1 ≤ 80 ∧ ∃ c, s'.2.2 = s.2.2 ++ c ∧ c.length + s.1 ≤ s'.1 ∧ pus c + s.2.1 ≤ s'.2.1 ∧ ∀ st, tyL c st = some (b :: st)
def GdR (n : Nat) (s : PS) : Prop := s.1 ≤ n ∧ s.2.2.length ≤ s.1 ∧ s.2.1 ≤ 80
set_option maxHeartbeats 200000 in
theorem OkR.gd {n : Nat} {b : Bool} {s s' : PS} (h : OkR n b s s') (g : GdR n s) : GdR n s' := by
  obtain ⟨h1, h2, h3, c, e, l, -, -⟩ := h
  refine ⟨h2, ?_, h3⟩
  rw [e, List.length_append]
  have := g.2.1
  omega
set_option maxHeartbeats 200000 in
theorem OkR.join {n : Nat} {b1 b2 b : Bool} {s0 s s1 s' : PS} {v : Int32} (h : OkR n b1 s0 s) (hp : s.1 < s1.1) (hm : s.2.1 ≤ s1.2.1) (hc : s1.2.2 = s.2.2) (h' : OkR n b2 s1 s') (hv : ¬ -10 < v) (ht : ∀ st, tyS v (b2 :: b1 :: st) = some (b :: st)) : OkR n b s0 (lay v s') := by
  obtain ⟨p1, p2, p3, c, e, l, m, t⟩ := h
  obtain ⟨q1, q2, q3, c', e', l', m', t'⟩ := h'
  refine ⟨by show s0.1 < s'.1; omega, q2, q3, c ++ c' ++ [v], ?_, ?_, ?_, ?_⟩
  · show s'.2.2 ++ [v] = _
    rw [e', hc, e, List.append_assoc, List.append_assoc, List.append_assoc]
  · show (c ++ c' ++ [v]).length + s0.1 ≤ s'.1
    rw [List.length_append, List.length_append]
    show c.length + c'.length + 1 + s0.1 ≤ s'.1
    omega
  · show pus (c ++ c' ++ [v]) + s0.2.1 ≤ s'.2.1
    rw [pus_app, pus_app]
    show pus c + pus c' + ((if -10 < v then 1 else 0) + 0) + s0.2.1 ≤ _
    rw [if_neg hv]
    omega
  · intro st
    rw [tyL_app, tyL_app, t]
    show (tyL c' (b1 :: st)).bind (tyL [v]) = _
    rw [t']
    show (tyS v (b2 :: b1 :: st)).bind (tyL []) = _
    rw [ht]; rfl
set_option maxHeartbeats 200000 in
theorem OkR.no {n : Nat} {s s1 s' : PS} (hp : s.1 < s1.1) (hm : s.2.1 ≤ s1.2.1) (hc : s1.2.2 = s.2.2) (h' : OkR n true s1 s') : OkR n true s (lay (-10) s') := by
  obtain ⟨q1, q2, q3, c', e', l', m', t'⟩ := h'
  refine ⟨by show s.1 < s'.1; omega, q2, q3, c' ++ [-10], ?_, ?_, ?_, ?_⟩
  · show s'.2.2 ++ [-10] = _
    rw [e', hc, List.append_assoc]
  · show (c' ++ [-10]).length + s.1 ≤ s'.1
    rw [List.length_append]
    show c'.length + 1 + s.1 ≤ s'.1
    omega
  · show pus (c' ++ [-10]) + s.2.1 ≤ s'.2.1
    rw [pus_app]
    show pus c' + 0 + s.2.1 ≤ _
    omega
  · intro st
    rw [tyL_app, t']
    rfl
set_option maxHeartbeats 200000 in
theorem OkR.par {n : Nat} {b : Bool} {s s1 s' s2 : PS} (hp : s.1 ≤ s1.1) (hm : s.2.1 ≤ s1.2.1) (hc : s1.2.2 = s.2.2) (h' : OkR n b s1 s') (g1 : s'.1 ≤ s2.1) (g2 : s2.1 ≤ n) (g3 : s2.2 = s'.2) : OkR n b s s2 := by
  obtain ⟨q1, q2, q3, c', e', l', m', t'⟩ := h'
  refine ⟨by omega, g2, by rw [g3]; exact q3, c', ?_, by omega, by rw [g3]; omega, t'⟩
  rw [g3, e', hc]
set_option maxHeartbeats 200000 in
theorem OkR.val {n : Nat} {s s' : PS} {v : Int32} (hp : s.1 < s'.1) (hn : s'.1 ≤ n) (h8 : s.2.1 < 80) (hv : -10 < v) (hs : s'.2 = (s.2.1 + 1, s.2.2 ++ [v])) : OkR n false s s' := by
  refine ⟨hp, hn, by rw [hs]; exact h8, [v], by rw [hs], by show 1 + s.1 ≤ s'.1; omega, ?_, ?_⟩
  · rw [hs]
    show ((if -10 < v then 1 else 0) + 0) + s.2.1 ≤ s.2.1 + 1
    rw [if_pos hv]; omega
  · intro st
    show (tyS v st).bind (tyL []) = _
    unfold tyS
    rw [if_pos hv]; rfl
set_option maxHeartbeats 200000 in
theorem bnR_inr {r : PR} {k : PS → PR} {s' : PS} (h : bnR r k = .inr s') : ∃ s1, r = .inr s1 ∧ k s1 = .inr s' := by
  cases r with
  | inl f => cases h
  | inr s => exact ⟨s, rfl, h⟩
set_option maxHeartbeats 200000 in
theorem one_inr {p : Nat} {s s' : PS} {k : PS → PR} (h : one p s k = .inr s') : s.2.1 < 80 ∧ k (s.1, s.2.1 + 1, s.2.2) = .inr s' := by
  unfold one at h
  by_cases c : s.2.1 < 80
  · rw [if_pos c] at h; exact ⟨c, h⟩
  · rw [if_neg c] at h; cases h
set_option maxHeartbeats 200000 in
theorem wk_all : ∀ k, k < 9 → (-10 : Int32) < -1 - nI k := by decide
section OK
variable {T : Nat → Nat} {n : Nat}
set_option maxHeartbeats 200000 in
theorem nx_b {p : Nat} (hp : p ≤ n) : nx T n p ≤ n ∧ p ≤ nx T n p ∧ (p < n → p < nx T n p) := by
  have te := tkE_le (T := T) hp
  have ge := ev_ge (T := T) (n := n) (q := isSp) (n - tkE T n p) (tkE T n p) rfl
  have g1 : nx T n p ≤ n := ge.2.1 te.1
  have g2 : tkE T n p ≤ nx T n p := ge.1
  exact ⟨g1, by omega, fun z => by have := te.2.2 z; omega⟩
set_option maxHeartbeats 200000 in
theorem sym_lt {p c : Nat} (h : sym T n p c = true) : p < n := (of_decide_eq_true h).1
set_option maxHeartbeats 200000 in
theorem wdB_lt {p : Nat} {ws : List Nat} (h : wdB T n p ws = true) : p < n := (of_decide_eq_true (Bool.and_eq_true_iff.mp h).1).1
set_option maxHeartbeats 200000 in
theorem okLoop {al : Nat → PS → PR} {r : PS → PR} {go : PS → Option Int32} {b : Bool} (h0 : ∀ s, al 0 s = .inr s) (hs : ∀ k s, al (k + 1) s = match go s with
    | none => .inr s
    | some v => bnR (r (stp T n s)) (fun s' => al k (lay v s'))) (hg : ∀ s v, go s = some v → s.1 < n ∧ ¬ -10 < v ∧ ∀ st, tyS v (b :: b :: st) = some (b :: st)) (hr : ∀ s s', s.1 ≤ n → s.2.1 ≤ 80 → r s = .inr s' → OkR n b s s') : ∀ (k : Nat) (s0 s s' : PS), OkR n b s0 s → al k s = .inr s' → OkR n b s0 s' := by
  intro k
  induction k with
  | zero => intro s0 s s' h e; rw [h0] at e; cases e; exact h
  | succ k ih =>
    intro s0 s s' h e
    rw [hs] at e
    cases g : go s with
    | none => rw [g] at e; cases e; exact h
    | some v =>
      rw [g] at e
      obtain ⟨s1, e1, e2⟩ := bnR_inr e
      obtain ⟨g1, g2, g3⟩ := hg s v g
      have nb := nx_b (T := T) (n := n) (p := s.1) (by omega)
      have o1 := hr (stp T n s) s1 nb.1 h.2.2.1 e1
      exact ih s0 (lay v s1) s' (h.join (s1 := stp T n s) (nb.2.2 g1) (Nat.le_refl _) rfl o1 g2 g3) e2
def HA (n f : Nat) (ra : Nat → Nat → PS → PR) : Prop := ∀ w d s s', w ≤ 6 → d ≤ 10 → 7 * (10 - d) + 7 - w < f → s.1 ≤ n → s.2.1 ≤ 80 → ra w d s = .inr s' → OkR n (decide (w < 4)) s s'
def goP (T : Nat → Nat) (n : Nat) (s : PS) : Option Int32 := if sym T n s.1 42 = true then some (-15) else none
def goS (T : Nat → Nat) (n : Nat) (s : PS) : Option Int32 := if sym T n s.1 43 = true then some (-13) else if sym T n s.1 45 = true then some (-14) else none
def goA (T : Nat → Nat) (n : Nat) (s : PS) : Option Int32 := if wdB T n s.1 (wl_ 13) = true then some (-11) else none
def goO (T : Nat → Nat) (n : Nat) (s : PS) : Option Int32 := if wdB T n s.1 (wl_ 12) = true then some (-12) else none
set_option maxHeartbeats 200000 in
theorem prod_s {rc : Nat → Nat → PS → PR} {d : Nat} (k : Nat) (s : PS) : aProdL T n rc d (k + 1) s = match goP T n s with
    | none => .inr s
    | some v => bnR (rc 6 d (stp T n s)) (fun s' => aProdL T n rc d k (lay v s')) := by
  unfold goP
  show (if sym T n s.1 42 = true then _ else _) = _
  by_cases c : sym T n s.1 42 = true
  · rw [if_pos c, if_pos c]
  · rw [if_neg c, if_neg c]
set_option maxHeartbeats 200000 in
theorem sum_s {rc : Nat → Nat → PS → PR} {d : Nat} (k : Nat) (s : PS) : aSumL T n rc d (k + 1) s = match goS T n s with
    | none => .inr s
    | some v => bnR (rc 5 d (stp T n s)) (fun s' => aSumL T n rc d k (lay v s')) := by
  unfold goS
  show (if sym T n s.1 43 = true then _ else if sym T n s.1 45 = true then _ else _) = _
  by_cases c : sym T n s.1 43 = true
  · rw [if_pos c, if_pos c]
  · rw [if_neg c, if_neg c]
    by_cases c : sym T n s.1 45 = true
    · rw [if_pos c, if_pos c]
    · rw [if_neg c, if_neg c]
set_option maxHeartbeats 200000 in
theorem part_s {rc : Nat → Nat → PS → PR} {d : Nat} (k : Nat) (s : PS) : aPartL T n rc d (k + 1) s = match goA T n s with
    | none => .inr s
    | some v => bnR (rc 2 d (stp T n s)) (fun s' => aPartL T n rc d k (lay v s')) := by
  unfold goA
  show (if wdB T n s.1 (wl_ 13) = true then _ else _) = _
  by_cases c : wdB T n s.1 (wl_ 13) = true
  · rw [if_pos c, if_pos c]
  · rw [if_neg c, if_neg c]
set_option maxHeartbeats 200000 in
theorem test_s {rc : Nat → Nat → PS → PR} {d : Nat} (k : Nat) (s : PS) : aTestL T n rc d (k + 1) s = match goO T n s with
    | none => .inr s
    | some v => bnR (rc 1 d (stp T n s)) (fun s' => aTestL T n rc d k (lay v s')) := by
  unfold goO
  show (if wdB T n s.1 (wl_ 12) = true then _ else _) = _
  by_cases c : wdB T n s.1 (wl_ 12) = true
  · rw [if_pos c, if_pos c]
  · rw [if_neg c, if_neg c]
set_option maxHeartbeats 200000 in
theorem goP_g (s : PS) (v : Int32) (h : goP T n s = some v) : s.1 < n ∧ ¬ -10 < v ∧ ∀ st, tyS v (false :: false :: st) = some (false :: st) := by
  unfold goP at h
  split at h
  · next c => cases h; exact ⟨sym_lt c, by decide, fun _ => rfl⟩
  · cases h
set_option maxHeartbeats 200000 in
theorem goS_g (s : PS) (v : Int32) (h : goS T n s = some v) : s.1 < n ∧ ¬ -10 < v ∧ ∀ st, tyS v (false :: false :: st) = some (false :: st) := by
  unfold goS at h
  split at h
  · next c => cases h; exact ⟨sym_lt c, by decide, fun _ => rfl⟩
  · split at h
    · next c => cases h; exact ⟨sym_lt c, by decide, fun _ => rfl⟩
    · cases h
set_option maxHeartbeats 200000 in
theorem goA_g (s : PS) (v : Int32) (h : goA T n s = some v) : s.1 < n ∧ ¬ -10 < v ∧ ∀ st, tyS v (true :: true :: st) = some (true :: st) := by
  unfold goA at h
  split at h
  · next c => cases h; exact ⟨wdB_lt c, by decide, fun _ => rfl⟩
  · cases h
set_option maxHeartbeats 200000 in
theorem goO_g (s : PS) (v : Int32) (h : goO T n s = some v) : s.1 < n ∧ ¬ -10 < v ∧ ∀ st, tyS v (true :: true :: st) = some (true :: st) := by
  unfold goO at h
  split at h
  · next c => cases h; exact ⟨wdB_lt c, by decide, fun _ => rfl⟩
  · cases h
set_option maxHeartbeats 200000 in
theorem cmp_ty {x : Int32} (h : ¬ f_X4_comparisonOf x = -1) : ¬ -10 < f_X4_comparisonOf x ∧ ∀ st, tyS (f_X4_comparisonOf x) (false :: false :: st) = some (true :: st) := by
  unfold f_X4_comparisonOf at h ⊢
  by_cases c1 : x = 60
  · rw [if_pos c1]; exact ⟨by decide, fun _ => rfl⟩
  · rw [if_neg c1] at h ⊢
    by_cases c2 : x = 61
    · rw [if_pos c2]; exact ⟨by decide, fun _ => rfl⟩
    · rw [if_neg c2] at h ⊢
      by_cases c3 : x = 62
      · rw [if_pos c3]; exact ⟨by decide, fun _ => rfl⟩
      · rw [if_neg c3] at h ⊢
        by_cases c4 : x = 316
        · rw [if_pos c4]; exact ⟨by decide, fun _ => rfl⟩
        · rw [if_neg c4] at h ⊢
          by_cases c5 : x = 318
          · rw [if_pos c5]; exact ⟨by decide, fun _ => rfl⟩
          · rw [if_neg c5] at h; exact absurd rfl h
set_option maxHeartbeats 200000 in
theorem cmp_lt {p : Nat} (h : ¬ f_X4_comparisonOf (tkK T n p) = -1) : p < n := by
  by_cases c : p < n
  · exact c
  · unfold tkK at h
    rw [if_neg c] at h
    exact absurd (by decide) h
set_option maxHeartbeats 200000 in
theorem nI_neg {m : Nat} (h : m < 100000000) : (-10 : Int32) < nI m := by
  rw [ltI, nI_toInt (show m < 2 ^ 31 by omega), show (-10 : Int32).toInt = -10 from rfl]; omega
set_option maxHeartbeats 200000 in
theorem AG_ok (hT : ∀ i, T i < 256) : ∀ f, HA n f (AG T n f) := by
  intro f
  induction f with
  | zero => intro w d s s' _ _ h; omega
  | succ f ih =>
    intro w d s s' hw hd hf h1 h2 e
    have nb := nx_b (T := T) (n := n) h1
    obtain rfl | rfl | rfl | rfl | rfl | rfl | rfl : w = 0 ∨ w = 1 ∨ w = 2 ∨ w = 3 ∨ w = 4 ∨ w = 5 ∨ w = 6 := by omega
    · have e : aTest T n (AG T n f) d s = .inr s' := e
      obtain ⟨s1, e1, e2⟩ := bnR_inr e
      have o1 : OkR n true s s1 := ih 1 d s s1 (by omega) hd (by omega) h1 h2 e1
      exact okLoop (T := T) (al := aTestL T n (AG T n f) d) (r := AG T n f 1 d) (fun _ => rfl) test_s goO_g (fun a a' g1 g2 g3 => ih 1 d a a' (by omega) hd (by omega) g1 g2 g3) 400 s s1 s' o1 e2
    · have e : aPart T n (AG T n f) d s = .inr s' := e
      obtain ⟨s1, e1, e2⟩ := bnR_inr e
      have o1 : OkR n true s s1 := ih 2 d s s1 (by omega) hd (by omega) h1 h2 e1
      exact okLoop (T := T) (al := aPartL T n (AG T n f) d) (r := AG T n f 2 d) (fun _ => rfl) part_s goA_g (fun a a' g1 g2 g3 => ih 2 d a a' (by omega) hd (by omega) g1 g2 g3) 400 s s1 s' o1 e2
    · have e : aFact T n (AG T n f) d s = .inr s' := e
      unfold aFact at e
      by_cases c1 : wdB T n s.1 (wl_ 14) = true
      · rw [if_pos c1] at e
        by_cases c2 : d < 10
        · rw [if_pos c2] at e
          obtain ⟨s1, e1, e2⟩ := bnR_inr e
          have o1 : OkR n true (stp T n s) s1 := ih 2 (d + 1) (stp T n s) s1 (by omega) (by omega) (by omega) nb.1 h2 e1
          cases e2
          exact OkR.no (s1 := stp T n s) (nb.2.2 (wdB_lt c1)) (Nat.le_refl _) rfl o1
        · rw [if_neg c2] at e; cases e
      · rw [if_neg c1] at e
        by_cases c3 : sym T n s.1 91 = true
        · rw [if_pos c3] at e
          by_cases c2 : d < 10
          · rw [if_pos c2] at e
            obtain ⟨s1, e1, e2⟩ := bnR_inr e
            have o1 : OkR n true (stp T n s) s1 := ih 0 (d + 1) (stp T n s) s1 (by omega) (by omega) (by omega) nb.1 h2 e1
            by_cases c4 : sym T n s1.1 93 = true
            · rw [if_pos c4] at e2
              cases e2
              have nb1 := nx_b (T := T) (n := n) o1.2.1
              exact OkR.par (s1 := stp T n s) (s' := s1) nb.2.1 (Nat.le_refl _) rfl o1 nb1.2.1 nb1.1 rfl
            · rw [if_neg c4] at e2; cases e2
          · rw [if_neg c2] at e; cases e
        · rw [if_neg c3] at e
          exact ih 3 d s s' (by omega) hd (by omega) h1 h2 e
    · have e : aCmp T n (AG T n f) d s = .inr s' := e
      obtain ⟨s1, e1, e2⟩ := bnR_inr e
      have o1 : OkR n false s s1 := ih 4 d s s1 (by omega) hd (by omega) h1 h2 e1
      by_cases c : f_X4_comparisonOf (tkK T n s1.1) = -1
      · rw [if_pos c] at e2; cases e2
      · rw [if_neg c] at e2
        obtain ⟨m1, e3⟩ := one_inr e2
        obtain ⟨s2, e4, e5⟩ := bnR_inr e3
        have nb1 := nx_b (T := T) (n := n) o1.2.1
        have o2 : OkR n false (stp T n (s1.1, s1.2.1 + 1, s1.2.2)) s2 := ih 4 d _ s2 (by omega) hd (by omega) nb1.1 (show s1.2.1 + 1 ≤ 80 by omega) e4
        cases e5
        exact OkR.join (s1 := stp T n (s1.1, s1.2.1 + 1, s1.2.2)) o1 (nb1.2.2 (cmp_lt c)) (Nat.le_succ _) rfl o2 (cmp_ty c).1 (cmp_ty c).2
    · have e : aSum T n (AG T n f) d s = .inr s' := e
      obtain ⟨s1, e1, e2⟩ := bnR_inr e
      have o1 : OkR n false s s1 := ih 5 d s s1 (by omega) hd (by omega) h1 h2 e1
      exact okLoop (T := T) (al := aSumL T n (AG T n f) d) (r := AG T n f 5 d) (fun _ => rfl) sum_s goS_g (fun a a' g1 g2 g3 => ih 5 d a a' (by omega) hd (by omega) g1 g2 g3) 400 s s1 s' o1 e2
    · have e : aProd T n (AG T n f) d s = .inr s' := e
      obtain ⟨s1, e1, e2⟩ := bnR_inr e
      have o1 : OkR n false s s1 := ih 6 d s s1 (by omega) hd (by omega) h1 h2 e1
      exact okLoop (T := T) (al := aProdL T n (AG T n f) d) (r := AG T n f 6 d) (fun _ => rfl) prod_s goP_g (fun a a' g1 g2 g3 => ih 6 d a a' (by omega) hd (by omega) g1 g2 g3) 400 s s1 s' o1 e2
    · have e : aVal T n (AG T n f) d s = .inr s' := e
      unfold aVal at e
      by_cases c1 : s.1 < n ∧ isDg (T s.1) = true
      · rw [if_pos c1] at e
        by_cases c2 : tkE T n s.1 - s.1 ≤ 5
        · rw [if_pos c2] at e
          obtain ⟨m1, e3⟩ := one_inr e
          cases e3
          exact OkR.val (nb.2.2 c1.1) nb.1 m1 (nI_neg (nvl_lt hT _ _)) rfl
        · rw [if_neg c2] at e; cases e
      · rw [if_neg c1] at e
        by_cases c3 : sym T n s.1 40 = true
        · rw [if_pos c3] at e
          by_cases c2 : d < 10
          · rw [if_pos c2] at e
            obtain ⟨m1, e3⟩ := one_inr e
            obtain ⟨s1, e1, e2⟩ := bnR_inr e3
            have o1 : OkR n false (stp T n (s.1, s.2.1 + 1, s.2.2)) s1 := ih 4 (d + 1) _ s1 (by omega) (by omega) (by omega) nb.1 (show s.2.1 + 1 ≤ 80 by omega) e1
            by_cases c4 : sym T n s1.1 41 = true
            · rw [if_pos c4] at e2
              cases e2
              have nb1 := nx_b (T := T) (n := n) o1.2.1
              exact OkR.par (s1 := stp T n (s.1, s.2.1 + 1, s.2.2)) (s' := s1) nb.2.1 (Nat.le_succ _) rfl o1 nb1.2.1 nb1.1 rfl
            · rw [if_neg c4] at e2; cases e2
          · rw [if_neg c2] at e; cases e
        · rw [if_neg c3] at e
          cases g : wno T n s.1 with
          | none => rw [g] at e; cases e
          | some k =>
            rw [g] at e
            obtain ⟨m1, e3⟩ := one_inr e
            cases e3
            obtain ⟨-, r2, r3⟩ := fnd_lt g
            exact OkR.val (nb.2.2 (wdB_lt r3)) nb.1 m1 (wk_all k (by omega)) rfl
end OK
