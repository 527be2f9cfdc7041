/-! finding the clause that tells -/
def hb (σ : St) (a3 : Nat) (L : List Stt) (ks : Nat → Nat) (s c : Nat) : Bool := decide ((gC (gS L s) c).2.2.1 = 0) || (decide (¬ cv σ a3 (ks s + (gC (gS L s) c).2.2.2.2.1) (ks s + (gC (gS L s) c).2.2.2.2.2) = 0) == decide ((gC (gS L s) c).2.2.1 = 1))
def pf (σ : St) (a3 : Nat) (L : List Stt) (ks : Nat → Nat) (t s c : Nat) : Bool := decide ((gC (gS L s) c).1 = t) && hb σ a3 L ks s c
def WD (σ τ : St) (a3 : Nat) : Prop := ∃ wd : Nat → Int64, (∀ σ, lnO tC σ a3 = 9) ∧ a3 ≠ 44 ∧ (∀ k, k < 9 → σ.2.2 a3 k = wd k) ∧ (∀ k, k < 9 → ∀ B, f_X11_wordNow (nI k) (stL τ 33 B) = some (wd k))
set_option maxHeartbeats 200000 in
theorem thM_inj {a b : Nat} (ha : a ≤ 7) (hb : b ≤ 7) : (thM a = thM b) = (a = b) := by
  refine propext ⟨fun h => ?_, fun h => by rw [h]⟩
  unfold thM at h
  repeat' split at h
  all_goals omega
set_option maxHeartbeats 200000 in
theorem thM_le {a : Nat} (ha : a ≤ 7) : thM a ≤ 7 := by
  unfold thM
  repeat' split
  all_goals omega
section Find
variable {σ τ : St} {L : List Stt} {ks : Nat → Nat} {Ln a3 : Nat}
set_option maxHeartbeats 200000 in
theorem holds_C (H : LawS σ τ L ks Ln) (W : WD σ τ a3) {s c : Nat} (hs : s < L.length) (hc : c < (gS L s).2.2.2.length) (A : Nat → Int64) : ∃ A', f_X2_holds a3 (nI (12 * s + c)) (stL σ 44 A) = some (if hb σ a3 L ks s c then 1 else 0, stL σ 44 A') := by
  have h0 := H
  obtain ⟨wd, ha, hane, hw, hwM⟩ := W
  obtain ⟨h1, h2, h3, h4, h5, h6, h7, h8⟩ := H
  obtain ⟨⟨a1, a2, a3', a4, a5⟩, b, ⟨c1, c2, c3, c4⟩, d⟩ := h6 s hs
  obtain ⟨p1, p2, p3, p4, p5, p6⟩ := a5 c hc
  obtain ⟨q1, q2, q3, q4, q5⟩ := c4 c hc
  unfold f_X2_holds hb
  rw [rdC_40 (by omega), bS, stL2, p3]
  by_cases e : (gC (gS L s) c).2.2.1 = 0
  · rw [if_pos (by rw [e]; rfl), decide_eq_true e]; exact ⟨A, rfl⟩
  · rw [if_neg (by rw [show (0 : Int32) = nI 0 from rfl, nI_eqE (by omega) (by omega)]; exact e), rdC_42 (by omega), bS, rdC_43 (by omega), bS, stL2, p5, p6, decide_eq_false e, Bool.false_or]
    obtain ⟨A', hA⟩ := (ev_sep h0 ha hane hw hwM hs (q4 e)).1 A
    rw [hA, bS, bndE]
    show ∃ A', ((rd tC (stL σ 44 _) 40 (nI (12 * s + c))).bind _) = _
    rw [rdC_40 (by omega), bS, stL2, p3, bndE, bndE]
    refine ⟨A', ?_⟩
    congr 2
    by_cases e1 : cv σ a3 (ks s + (gC (gS L s) c).2.2.2.2.1) (ks s + (gC (gS L s) c).2.2.2.2.2) = 0
    · rw [if_pos e1, decide_eq_false (fun h => h e1)]
      by_cases e2 : (gC (gS L s) c).2.2.1 = 1
      · rw [if_pos (show nI (gC (gS L s) c).2.2.1 = 1 by rw [e2]; rfl), decide_eq_true e2]; rfl
      · rw [if_neg (show ¬ nI (gC (gS L s) c).2.2.1 = 1 by rw [show (1 : Int32) = nI 1 from rfl, nI_eqE (by omega) (by omega)]; exact e2), decide_eq_false e2]; rfl
    · rw [if_neg e1, decide_eq_true e1]
      by_cases e2 : (gC (gS L s) c).2.2.1 = 1
      · rw [if_pos (show nI (gC (gS L s) c).2.2.1 = 1 by rw [e2]; rfl), decide_eq_true e2]; rfl
      · rw [if_neg (show ¬ nI (gC (gS L s) c).2.2.1 = 1 by rw [show (1 : Int32) = nI 1 from rfl, nI_eqE (by omega) (by omega)]; exact e2), decide_eq_false e2]; rfl
set_option maxHeartbeats 200000 in
theorem find_47 (H : LawS σ τ L ks Ln) (W : WD σ τ a3) {x1 x3 : Int32} {t s i : Nat} (ht : t ≤ 7) (hs : s < L.length) (k : Int32 → St → Option (Int32 × St)) : ∀ (n c f : Nat) (A : Nat → Int64), c + n = (gS L s).2.2.2.length → n < f → ∃ A', f_X2_findClause_47 a3 x1 (nI t) x3 (nI i) (nI s) k f (nI c) (stL σ 44 A) = match fnd (pf σ a3 L ks t s) n c with
    | some c' => some (nI (16 * s + c'), stL σ 44 A')
    | none => k (nI (i + 1)) (stL σ 44 A') := by
  have h0 := H
  obtain ⟨h1, h2, h3, h4, h5, h6, h7, h8⟩ := H
  obtain ⟨⟨a1, a2, a3', a4, a5⟩, b, ⟨c1, c2, c3, c4⟩, d⟩ := h6 s hs
  intro n
  induction n with
  | zero =>
    intro c f A hc hf
    obtain ⟨f, rfl⟩ : ∃ q, f = q + 1 := ⟨f - 1, by omega⟩
    refine ⟨A, ?_⟩
    unfold f_X2_findClause_47 f_X2_findClause_108
    rw [rdC_36 (by omega), bS, stL2, a3', if_pos (by rw [nI_leE (by omega) (by omega)]; omega), bndE, show nI i + 1 = nI (i + 1) from nI_add _ 1]
    rfl
  | succ n ih =>
    intro c f A hc hf
    obtain ⟨f, rfl⟩ : ∃ q, f = q + 1 := ⟨f - 1, by omega⟩
    obtain ⟨p1, p2, p3, p4, p5, p6⟩ := a5 c (by omega)
    obtain ⟨q1, q2, q3, q4, q5⟩ := c4 c (by omega)
    have pd : pf σ a3 L ks t s c = (decide ((gC (gS L s) c).1 = t) && hb σ a3 L ks s c) := rfl
    rw [fnd_s, pd]
    unfold f_X2_findClause_47 f_X2_findClause_102 f_X2_findClause_93
    rw [rdC_36 (by omega), bS, stL2, a3', if_neg (by rw [nI_leE (by omega) (by omega)]; omega), show nI s * 12 + nI c = nI (12 * s + c) from ixd 12 _ _, rdC_38 (by omega), bS, stL2, p1]
    have et : (nI (gC (gS L s) c).1 = nI t) = ((gC (gS L s) c).1 = t) := nI_eqE (by omega) (by omega)
    by_cases e : (gC (gS L s) c).1 = t
    · rw [if_pos (et.mpr e), decide_eq_true e, Bool.true_and]
      obtain ⟨A1, hA⟩ := holds_C h0 W hs (show c < (gS L s).2.2.2.length by omega) A
      rw [hA, bS]
      cases hh : hb σ a3 L ks s c with
      | true => exact ⟨A1, congrArg (fun z => some (z, stL σ 44 A1)) (ixc 16 s c)⟩
      | false =>
        obtain ⟨A', h⟩ := ih (c + 1) f A1 (by omega) (by omega)
        refine ⟨A', ?_⟩
        rw [← show nI c + 1 = nI (c + 1) from nI_add _ 1] at h
        exact h
    · rw [if_neg (fun h => e (et.mp h)), decide_eq_false e]
      obtain ⟨A', h⟩ := ih (c + 1) f A (by omega) (by omega)
      refine ⟨A', ?_⟩
      rw [← show nI c + 1 = nI (c + 1) from nI_add _ 1] at h
      exact h
set_option maxHeartbeats 200000 in
theorem clause_5 (H : LawS σ τ L ks Ln) (W : WD σ τ a3) {t s : Nat} (ht : t ≤ 7) (hs : s < L.length) : ∀ (n c f : Nat) (B : Nat → Int64), c + n = (gS L s).2.2.2.length → n < f → ∃ B', f_X11_clauseOf_5 (nI s) (nI (thM t)) f (nI (12 * s + c)) (stL τ 33 B) = some (match fnd (pf σ a3 L ks t s) n c with
    | some c' => nI (12 * s + c')
    | none => -1, stL τ 33 B') := by
  have h0 := H
  obtain ⟨wd, ha, hane, hw, hwM⟩ := W
  obtain ⟨h1, h2, h3, h4, h5, h6, h7, h8⟩ := H
  obtain ⟨a, ⟨b1, b2, b3, b4, b5⟩, ⟨c1, c2, c3, c4⟩, d⟩ := h6 s hs
  intro n
  induction n with
  | zero =>
    intro c f B hc hf
    obtain ⟨f, rfl⟩ : ∃ q, f = q + 1 := ⟨f - 1, by omega⟩
    refine ⟨B, ?_⟩
    unfold f_X11_clauseOf_5
    rw [rdM_21 (by omega), bS, stL2, b3, show (12 : Int32) * nI s + nI (gS L s).2.2.2.length = nI (12 * s + (gS L s).2.2.2.length) from ixc 12 _ _, if_pos (by rw [nI_leE (by omega) (by omega)]; omega)]
    rfl
  | succ n ih =>
    intro c f B hc hf
    obtain ⟨f, rfl⟩ : ∃ q, f = q + 1 := ⟨f - 1, by omega⟩
    obtain ⟨p1, p2, p3, p4, p5, p6⟩ := b5 c (by omega)
    obtain ⟨q1, q2, q3, q4, q5⟩ := c4 c (by omega)
    have t1 := thM_le q1
    have t2 := thM_le ht
    have pd : pf σ a3 L ks t s c = (decide ((gC (gS L s) c).1 = t) && hb σ a3 L ks s c) := rfl
    rw [fnd_s, pd]
    unfold f_X11_clauseOf_5 f_X11_clauseOf_89
    rw [rdM_21 (by omega), bS, stL2, b3, show (12 : Int32) * nI s + nI (gS L s).2.2.2.length = nI (12 * s + (gS L s).2.2.2.length) from ixc 12 _ _, if_neg (by rw [nI_leE (by omega) (by omega)]; omega), rdM_22 (by omega), bS, stL2, p1]
    have et : (nI (thM (gC (gS L s) c).1) = nI (thM t)) = ((gC (gS L s) c).1 = t) := by rw [nI_eqE (by omega) (by omega), thM_inj q1 ht]
    have nx : ∀ B1, ∃ B', f_X11_clauseOf_5 (nI s) (nI (thM t)) f (nI (12 * s + c) + 1) (stL τ 33 B1) = some (match fnd (pf σ a3 L ks t s) n (c + 1) with
      | some c' => nI (12 * s + c')
      | none => -1, stL τ 33 B') := by
      intro B1
      rw [show nI (12 * s + c) + 1 = nI (12 * s + (c + 1)) from nI_add _ 1]
      exact ih (c + 1) f B1 (by omega) (by omega)
    by_cases e : (gC (gS L s) c).1 = t
    · rw [if_pos (et.mpr e), decide_eq_true e, Bool.true_and, rdM_27 (by omega), bS, stL2, p3]
      unfold hb
      by_cases e0 : (gC (gS L s) c).2.2.1 = 0
      · rw [if_pos (by rw [e0]; rfl), decide_eq_true e0]; exact ⟨B, rfl⟩
      · rw [if_neg (by rw [show (0 : Int32) = nI 0 from rfl, nI_eqE (by omega) (by omega)]; exact e0), rdM_25 (by omega), bS, rdM_26 (by omega), bS, stL2, p5, p6, decide_eq_false e0, Bool.false_or]
        obtain ⟨_, r2, r3⟩ := ev_sep h0 ha hane hw hwM hs (q4 e0)
        obtain ⟨B1, hB⟩ := r2 B
        have r3 := r3 rfl
        rw [hB, bS, bndE]
        show ∃ B', ((rd tM (stL τ 33 _) 27 (nI (12 * s + c))).bind _) = _
        rw [rdM_27 (by omega), bS, stL2, p3, bndE]
        obtain ⟨B2, hB2⟩ := nx B1
        by_cases e1 : cv σ a3 (ks s + (gC (gS L s) c).2.2.2.2.1) (ks s + (gC (gS L s) c).2.2.2.2.2) = 0
        · rw [decide_eq_false (fun h => h e1), if_neg (show ¬ (cv σ a3 (ks s + (gC (gS L s) c).2.2.2.2.1) (ks s + (gC (gS L s) c).2.2.2.2.2), stL τ 33 B1).1 = 1 from fun h => absurd (e1.symm.trans h) (by decide))]
          by_cases e2 : (gC (gS L s) c).2.2.1 = 1
          · rw [if_pos (show nI (gC (gS L s) c).2.2.1 = 1 by rw [e2]; rfl), decide_eq_true e2]; exact ⟨B2, hB2⟩
          · rw [if_neg (show ¬ nI (gC (gS L s) c).2.2.1 = 1 by rw [show (1 : Int32) = nI 1 from rfl, nI_eqE (by omega) (by omega)]; exact e2), decide_eq_false e2]; exact ⟨B1, rfl⟩
        · rw [decide_eq_true e1, if_pos (show (cv σ a3 (ks s + (gC (gS L s) c).2.2.2.2.1) (ks s + (gC (gS L s) c).2.2.2.2.2), stL τ 33 B1).1 = 1 from r3.resolve_left e1)]
          by_cases e2 : (gC (gS L s) c).2.2.1 = 1
          · rw [if_pos (show nI (gC (gS L s) c).2.2.1 = 1 by rw [e2]; rfl), decide_eq_true e2]; exact ⟨B1, rfl⟩
          · rw [if_neg (show ¬ nI (gC (gS L s) c).2.2.1 = 1 by rw [show (1 : Int32) = nI 1 from rfl, nI_eqE (by omega) (by omega)]; exact e2), decide_eq_false e2]; exact ⟨B2, hB2⟩
    · rw [if_neg (fun h => e (et.mp h)), decide_eq_false e]
      exact nx B
-- the function that both searches work out
set_option maxHeartbeats 200000 in
theorem find_3 (H : LawS σ τ L ks Ln) (W : WD σ τ a3) {x1 : Int32} {t m : Nat} (ht : t ≤ 7) (hm : m < 9000) : ∀ (l : List Nat) (i f : Nat) (A : Nat → Int64), (∀ s ∈ l, s < L.length) → (srt (kyL L) L.length).drop i = l → i + l.length = L.length → l.length < f → ∃ A', f_X2_findClause_3 a3 x1 (nI t) (nI m) f (nI i) (stL σ 44 A) = some (match fst1 (fun s => if (gS L s).1 = x1 ∧ frc L s m = true then fnd (pf σ a3 L ks t s) (gS L s).2.2.2.length 0 else none) l with
    | some p => nI (16 * p.1 + p.2)
    | none => -1, stL σ 44 A') := by
  have h0 := H
  obtain ⟨h1, h2, h3, h4, h5, h6, h7, h8⟩ := H
  intro l
  induction l with
  | nil =>
    intro i f A hl hd hi hf
    obtain ⟨f, rfl⟩ : ∃ q, f = q + 1 := ⟨f - 1, by omega⟩
    refine ⟨A, ?_⟩
    rw [List.length_nil] at hi
    unfold f_X2_findClause_3
    rw [show gF (stL σ 44 A) 400 = nI L.length from h2, if_pos (by rw [nI_leE (by omega) (by omega)]; omega)]
    rfl
  | cons s l ih =>
    intro i f A hl hd hi hf
    obtain ⟨f, rfl⟩ : ∃ q, f = q + 1 := ⟨f - 1, by omega⟩
    rw [List.length_cons] at hi hf
    have hs : s < L.length := hl s (List.mem_cons_self ..)
    have hge : (srt (kyL L) L.length).getD i 0 = s := by
      have : ((srt (kyL L) L.length).drop i)[0]? = some s := by rw [hd]; rfl
      rw [List.getElem?_drop, Nat.add_zero] at this
      rw [List.getD_eq_getElem?_getD, this]; rfl
    have hd' : (srt (kyL L) L.length).drop (i + 1) = l := by
      rw [← List.drop_drop, hd]; rfl
    have h35 : σ.2.1 35 i = nI s := by rw [h7 i (by rw [srt_len]; omega), hge]
    have nx : ∀ A1, ∃ A', f_X2_findClause_3 a3 x1 (nI t) (nI m) f (nI i + 1) (stL σ 44 A1) = some (match fst1 (fun s => if (gS L s).1 = x1 ∧ frc L s m = true then fnd (pf σ a3 L ks t s) (gS L s).2.2.2.length 0 else none) l with
      | some p => nI (16 * p.1 + p.2)
      | none => -1, stL σ 44 A') := by
      intro A1
      rw [show nI i + 1 = nI (i + 1) from nI_add _ 1]
      exact ih (i + 1) f A1 (fun z hz => hl z (List.mem_cons_of_mem _ hz)) hd' (by omega) (by omega)
    obtain ⟨⟨a1, a2, a3', a4, a5⟩, b, ⟨c1, c2, c3, c4⟩, d⟩ := h6 s hs
    have H44 : LawS (stL σ 44 A) τ L ks Ln := h0
    unfold f_X2_findClause_3 f_X2_findClause_108 f_X2_isOf f_X2_isOf_22
    rw [show gF (stL σ 44 A) 400 = nI L.length from h2, if_neg (by rw [nI_leE (by omega) (by omega)]; omega), rdC_35 (by omega), bS, stL2, h35, has_eq H44 (by omega), if_pos hs, if_neg (by decide), rdC_32 (by omega), bS, stL2, a1]
    by_cases e1 : (gS L s).1 = x1
    · rw [if_pos e1, bS, if_neg (by decide), stands_eq H44 hs hm, bS]
      by_cases e2 : frc L s m = true
      · rw [if_pos e2, if_neg (by decide)]
        obtain ⟨A1, hA⟩ := find_47 h0 W (x1 := x1) (x3 := nI m) (i := i) ht hs (f_X2_findClause_3 a3 x1 (nI t) (nI m) f) (gS L s).2.2.2.length 0 FU A (by omega) (by unfold FU; omega)
        have hA' : f_X2_findClause_47 a3 x1 (nI t) (nI m) (nI i) (nI s) (f_X2_findClause_3 a3 x1 (nI t) (nI m) f) FU 0 (stL σ 44 A) = _ := hA
        rw [hA']
        cases hf : fnd (pf σ a3 L ks t s) (gS L s).2.2.2.length 0 with
        | some c => rw [fst1_some (a := s) (c := c) (by rw [if_pos ⟨e1, e2⟩, hf])]; exact ⟨A1, rfl⟩
        | none =>
          rw [fst1_none (a := s) (by rw [if_pos ⟨e1, e2⟩, hf])]
          obtain ⟨A2, hA2⟩ := nx A1
          rw [show nI i + 1 = nI (i + 1) from nI_add _ 1] at hA2
          exact ⟨A2, hA2⟩
      · rw [if_neg e2, if_pos rfl, bndE, fst1_none (a := s) (by rw [if_neg (fun h => e2 h.2)])]
        exact nx A
    · rw [if_neg e1, bS, if_pos rfl, bndE, fst1_none (a := s) (by rw [if_neg (fun h => e1 h.1)])]
      exact nx A
end Find
