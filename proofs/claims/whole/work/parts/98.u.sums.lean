/-! the reference's sums and facts, all of them -/
section SU
variable {T : Nat → Nat} {n k : Nat} {τ0 : St}
def HM (T : Nat → Nat) (n k : Nat) (τ0 : St) (f : Nat) : Prop := ∀ (d : Nat) (s : PS) (Wb V : List Int32) (q : Nat) (τ : St) (m : Nat), d ≤ 10 → GdR n s → (V ++ Wb).length ≤ s.1 → MR T n k τ0 τ q s d (V ++ Wb) → n - s.1 < m → (7 * (10 - d) + 7 - 6 < f → RF T n k τ0 (f_X11_sum_5 (nI Wb.length) m τ) (AG T n f 6 d s) (QV T n k τ0 Wb.length d (V ++ Wb))) ∧ (7 * (10 - d) + 7 - 5 < f → V.head? ≠ some 2 → RF T n k τ0 (f_X11_sum_5 (nI Wb.length) m τ) (AG T n f 5 d s) (QP T n k τ0 Wb.length d (V ++ Wb))) ∧ (7 * (10 - d) + 7 - 4 < f → V.head? ≠ some 2 → V.head? ≠ some 3 → V.head? ≠ some 4 → RF T n k τ0 (f_X11_sum_5 (nI Wb.length) m τ) (AG T n f 4 d s) (QS T n k τ0 Wb.length d (V ++ Wb)))
set_option maxHeartbeats 200000 in
theorem s5_m {x1 : Int32} {m : Nat} {τ τ' : St} {v : Int32} (h : f_X11_begins τ = some (v, τ')) : f_X11_sum_5 x1 (m + 1) τ = if 0 ≤ v then (if v = 0 then f_X11_sum_5 x1 m τ' else aft x1 m FU τ') else some (0, τ') := by
  rw [f_X11_sum_5, h, bS]; rfl
set_option maxHeartbeats 200000 in
theorem valM (hc : CnM τ0) (hT : ∀ i, T i < 256) {f : Nat} (ih : HM T n k τ0 f) {d : Nat} {s : PS} {Wb V : List Int32} {q : Nat} {τ : St} {m : Nat} (hd : d ≤ 10) (g : GdR n s) (hW : (V ++ Wb).length ≤ s.1) (h : MR T n k τ0 τ q s d (V ++ Wb)) (hm : n - s.1 < m) (hf : 7 * (10 - d) + 7 - 6 < f + 1) : RF T n k τ0 (f_X11_sum_5 (nI Wb.length) m τ) (aVal T n (AG T n f) d s) (QV T n k τ0 Wb.length d (V ++ Wb)) := by
  obtain ⟨m, rfl⟩ : ∃ z, m = z + 1 := ⟨m - 1, by omega⟩
  have n4 := h.1.1
  have g1 := g.1
  have g2 := g.2.1
  have bg := h.begins hc hT (by omega) g.2.2 (by omega)
  have nb := nx_b (T := T) (n := n) g.1
  have bad : ∀ fl, (∃ τ', f_X11_begins τ = some (-1, τ') ∧ MF T n k τ0 τ' fl) → ∃ τ', f_X11_sum_5 (nI Wb.length) (m + 1) τ = some (0, τ') ∧ MF T n k τ0 τ' fl := by
    intro fl z
    obtain ⟨τ', r1, r2⟩ := z
    exact ⟨τ', by rw [s5_m r1, if_neg (by decide)], r2⟩
  have good : ∀ (v : Int32) (τ' : St) (q' : Nat), s.1 < n → f_X11_begins τ = some (1, τ') → MR T n k τ0 τ' q' (stp T n (lay v (s.1, s.2.1 + 1, s.2.2))) d (V ++ Wb) → QV T n k τ0 Wb.length d (V ++ Wb) (stp T n (lay v (s.1, s.2.1 + 1, s.2.2))) (f_X11_sum_5 (nI Wb.length) (m + 1) τ) := by
    intro v τ' q' hp r1 r2
    have := nb.2.2 hp
    refine ⟨τ', m, FU, q', show n - nx T n s.1 < m by omega, show n - nx T n s.1 < FU by unfold FU; omega, ?_, r2⟩
    rw [s5_m r1, if_pos (by decide), if_neg (by decide)]
  unfold aVal one
  by_cases c1 : s.1 < n ∧ isDg (T s.1) = true
  · rw [if_pos c1] at bg ⊢
    by_cases c2 : tkE T n s.1 - s.1 ≤ 5
    · rw [if_pos c2] at bg ⊢
      by_cases c3 : s.2.1 < 80
      · rw [if_pos c3] at bg ⊢
        obtain ⟨τ', q', r1, r2⟩ := bg
        exact good _ τ' q' c1.1 r1 r2
      · rw [if_neg c3] at bg ⊢
        exact bad _ bg
    · rw [if_neg c2] at bg ⊢
      exact bad _ bg
  · rw [if_neg c1] at bg ⊢
    by_cases c2 : sym T n s.1 40 = true
    · rw [if_pos c2] at bg ⊢
      by_cases c3 : d < 10
      · rw [if_pos c3] at bg ⊢
        by_cases c4 : s.2.1 < 80
        · rw [if_pos c4] at bg ⊢
          obtain ⟨τ1, r1, r2⟩ := bg
          have nb3 := nb.2.2 (sym_lt c2)
          have gs1 : GdR n (stp T n (s.1, s.2.1 + 1, s.2.2)) := ⟨nb.1, Nat.le_trans g.2.1 nb.2.1, c4⟩
          have hv := (ih (d + 1) (stp T n (s.1, s.2.1 + 1, s.2.2)) Wb (13 :: V) (s.1 + 1) τ1 m (by omega) gs1 (by show (13 :: (V ++ Wb)).length ≤ nx T n s.1; rw [List.length_cons]; omega) r2 (show n - nx T n s.1 < m by omega)).2.2 (by omega) (fun z => absurd (Option.some.inj z) (by decide)) (fun z => absurd (Option.some.inj z) (by decide)) (fun z => absurd (Option.some.inj z) (by decide))
          rw [s5_m r1, if_pos (by decide), if_pos rfl]
          show RF T n k τ0 _ (bnR (AG T n f 4 (d + 1) (stp T n (s.1, s.2.1 + 1, s.2.2))) _) _
          cases e : AG T n f 4 (d + 1) (stp T n (s.1, s.2.1 + 1, s.2.2)) with
          | inl fl => rw [e] at hv; exact hv
          | inr s2 =>
            rw [e] at hv
            have o2 := AG_ok (n := n) hT f 4 (d + 1) _ s2 (by omega) (by omega) (by omega) nb.1 (show s.2.1 + 1 ≤ 80 by omega) e
            have gs2 := o2.gd gs1
            have nb2 := nx_b (T := T) (n := n) gs2.1
            obtain ⟨τ2, m2, F2, q2, l, l1, l2, x, pn, hl, y42, y43, y45⟩ := hv
            obtain ⟨F2, rfl⟩ : ∃ z, F2 = z + 1 := ⟨F2 - 1, by omega⟩
            obtain ⟨τ3, a1, a2⟩ := pn.see
            have hs3 : f_X11_has (nI Wb.length) 13 τ3 = some 1 := by
              obtain ⟨c0, z, -⟩ := a2
              exact MR.hasY (X := l) (Y := V) z
            show RF T n k τ0 _ (if sym T n s2.1 41 = true then _ else _) _
            by_cases c5 : sym T n s2.1 41 = true
            · rw [if_pos c5]
              have nb4 := nb2.2.2 (sym_lt c5)
              have e41 : byI T n s2.1 = 41 := (show (byI T n s2.1 = 41) = _ from byI_sym (c := 41) (hT _) (by decide)).mpr c5
              obtain ⟨τ4, d1, d2⟩ := PN.ends (V := 13 :: V) a2 hl (fun z => absurd (Option.some.inj z) (by decide)) (fun z => absurd (Option.some.inj z) (by decide)) (by have := gs2.1; have := gs2.2.1; omega)
              have d3 := (MR.drop (W := V ++ Wb) d2).down.go1 c5 (by decide)
              refine ⟨_, m2, F2, s2.1 + 1, show n - nx T n s2.1 < m2 by omega, show n - nx T n s2.1 < F2 by omega, ?_, d3⟩
              rw [x, f_X11_sum_36, a1, bS, if_pos e41]
              show (f_X11_has (nI Wb.length) 13 τ3).bind _ = _
              rw [hs3, bS, if_neg (by decide)]
              show (f_X11_endsSum (nI Wb.length) τ3).bind _ = _
              rw [d1, bS]; rfl
            · rw [if_neg c5]
              obtain ⟨τ4, b1, b2⟩ := a2.see
              have hs4 : f_X11_has (nI Wb.length) 13 τ4 = some 1 := by
                obtain ⟨c0, z, -⟩ := b2
                exact MR.hasY (X := l) (Y := V) z
              obtain ⟨c0, z, z2⟩ := b2
              obtain ⟨τ5, d1, d2⟩ := z.fail 0 s2.1
              refine ⟨τ5, ?_, d2⟩
              rw [x, f_X11_sum_36, a1, bS, if_neg (show ¬ byI T n s2.1 = 41 from fun w => c5 ((show (byI T n s2.1 = 41) = _ from byI_sym (c := 41) (hT _) (by decide)).mp w))]
              unfold f_X11_sum_106 f_X11_sum_170
              show (f_X11_see τ3).bind _ = _
              rw [b1, bS, if_neg (show ¬ byI T n s2.1 = 42 from fun w => y42 ((show (byI T n s2.1 = 42) = _ from byI_sym (c := 42) (hT _) (by decide)).mp w)), if_neg (show ¬ byI T n s2.1 = 43 from fun w => y43 ((show (byI T n s2.1 = 43) = _ from byI_sym (c := 43) (hT _) (by decide)).mp w)), if_neg (show ¬ byI T n s2.1 = 45 from fun w => y45 ((show (byI T n s2.1 = 45) = _ from byI_sym (c := 45) (hT _) (by decide)).mp w))]
              show (f_X11_has (nI Wb.length) 13 τ4).bind _ = _
              rw [hs4, bS, if_neg (by decide), show gF τ4 38 = _ from z.2.1.2.1, show f_X11_fails 0 (nI s2.1) τ4 = _ from d1, bS, nar0]
        · rw [if_neg c4] at bg ⊢
          exact bad _ bg
      · rw [if_neg c3] at bg ⊢
        exact bad _ bg
    · rw [if_neg c2] at bg ⊢
      cases gw : wno T n s.1 with
      | none =>
        rw [gw] at bg
        exact bad _ bg
      | some w =>
        rw [gw] at bg
        have bg : if s.2.1 < 80 then _ else _ := bg
        show RF T n k τ0 _ (if s.2.1 < 80 then _ else _) _
        by_cases c3 : s.2.1 < 80
        · rw [if_pos c3] at bg ⊢
          obtain ⟨τ', q', r1, r2⟩ := bg
          exact good _ τ' q' (wdB_lt (fnd_lt gw).2.2) r1 r2
        · rw [if_neg c3] at bg ⊢
          exact bad _ bg
set_option maxHeartbeats 200000 in
theorem HM_all (hc : CnM τ0) (hT : ∀ i, T i < 256) : ∀ f, HM T n k τ0 f := by
  intro f
  induction f with
  | zero => intro d s Wb V q τ m _ _ _ _ _; exact ⟨fun h => by omega, fun h => by omega, fun h => by omega⟩
  | succ f ih =>
    intro d s Wb V q τ m hd g hW h hm
    have n4 := h.1.1
    have A := AG_ok (n := n) hT f
    refine ⟨fun hf => valM hc hT ih hd g hW h hm hf, fun hf v2 => ?_, fun hf v2 v3 v4 => ?_⟩
    · show RF T n k τ0 _ (bnR (AG T n f 6 d s) (aProdL T n (AG T n f) d 400)) _
      have hv := (ih d s Wb V q τ m hd g hW h hm).1 (by omega)
      cases e : AG T n f 6 d s with
      | inl fl => rw [e] at hv; exact hv
      | inr s1 =>
        rw [e] at hv
        have o1 : OkR n false s s1 := A 6 d s s1 (by omega) hd (by omega) g.1 g.2.2 e
        have o2 := o1.1
        obtain ⟨τ1, m1, F1, q1, l1, l2, x1, x2⟩ := hv
        rw [x1]
        unfold aft
        rw [x2.top 2, bS, if_neg v2, if_pos rfl]
        exact prodM hT (ra := AG T n f) (fun s Wb V q τ m y1 y2 y3 y4 => (ih d s Wb V q τ m hd y1 y2 y3 y4).1 (by omega)) (fun s s' => A 6 d s s' (by omega) hd (by omega)) 400 s s1 q1 τ1 m1 F1 (by omega) g o1 hW x2 l1 l2
    · show RF T n k τ0 _ (bnR (AG T n f 5 d s) (aSumL T n (AG T n f) d 400)) _
      have hv := (ih d s Wb V q τ m hd g hW h hm).2.1 (by omega) v2
      cases e : AG T n f 5 d s with
      | inl fl => rw [e] at hv; exact hv
      | inr s1 =>
        rw [e] at hv
        have o1 : OkR n false s s1 := A 5 d s s1 (by omega) hd (by omega) g.1 g.2.2 e
        have o2 := o1.1
        obtain ⟨τ1, m1, F1, q1, l1, l2, x1, x2, x3⟩ := hv
        rw [x1]
        exact lmSum hT (ra := AG T n f) (fun s Wb V q τ m y1 y2 y3 y4 y5 => (ih d s Wb V q τ m hd y1 y2 y3 y4).2.1 (by omega) y5) (fun s s' => A 5 d s s' (by omega) hd (by omega)) v3 v4 400 s s1 q1 τ1 m1 F1 [] (by omega) g o1 hW (PN.of x2) (Or.inl rfl) x3 l1 l2
/-! a whole sum, a whole fact -/
def QE (T : Nat → Nat) (n k : Nat) (τ0 : St) (d : Nat) (W : List Int32) (s' : PS) (X : Option (Int32 × St)) : Prop := ∃ τ' q', X = some (1, τ') ∧ MR T n k τ0 τ' q' s' d W
set_option maxHeartbeats 200000 in
theorem sumAll (hc : CnM τ0) (hT : ∀ i, T i < 256) {f d q : Nat} {s : PS} {W : List Int32} {τ : St} (hd : d ≤ 10) (hf : 7 * (10 - d) + 7 - 4 < f) (g : GdR n s) (hW : W.length ≤ s.1) (h : MR T n k τ0 τ q s d W) : RF T n k τ0 (f_X11_sum τ) (AG T n f 4 d s) (QE T n k τ0 d W) := by
  have n4 := h.1.1
  have st : f_X11_sum τ = f_X11_sum_5 (nI W.length) FU τ := by
    unfold f_X11_sum
    rw [bndE, show gF τ 43 = _ from h.2.2.1.2.2.2.1]
  have hv := (HM_all hc hT f d s W [] q τ FU hd g hW h (by unfold FU; omega)).2.2 hf (fun z => by cases z) (fun z => by cases z) (fun z => by cases z)
  rw [st]
  cases e : AG T n f 4 d s with
  | inl fl => rw [e] at hv; exact hv
  | inr s2 =>
    rw [e] at hv
    have o2 := AG_ok (n := n) hT f 4 d _ s2 (by omega) hd hf g.1 g.2.2 e
    have gs2 := o2.gd g
    obtain ⟨τ2, m2, F2, q2, l, l1, l2, x, pn, hl, y42, y43, y45⟩ := hv
    obtain ⟨F2, rfl⟩ : ∃ z, F2 = z + 1 := ⟨F2 - 1, by omega⟩
    have no13 : (13 : Int32) ∉ l := by rcases hl with rfl | rfl | rfl <;> decide
    obtain ⟨τ3, a1, a2⟩ := pn.see
    obtain ⟨τ4, b1, b2⟩ := a2.see
    have hs3 : f_X11_has (nI W.length) 13 τ3 = some 0 := by
      obtain ⟨c0, z, -⟩ := a2
      exact MR.hasN (V := l) (Wb := W) z no13
    have hs4 : f_X11_has (nI W.length) 13 τ4 = some 0 := by
      obtain ⟨c0, z, -⟩ := b2
      exact MR.hasN (V := l) (Wb := W) z no13
    obtain ⟨τ5, d1, d2⟩ := PN.ends (V := []) (Wb := W) b2 hl (fun z => by cases z) (fun z => by cases z) (by have := gs2.1; have := gs2.2.1; omega)
    refine ⟨τ5, s2.1, ?_, d2⟩
    have s106 : f_X11_sum_106 (nI W.length) τ3 (f_X11_sum_5 (nI W.length) m2) = some (1, τ5) := by
      unfold f_X11_sum_106 f_X11_sum_170
      rw [b1, bS, if_neg (show ¬ byI T n s2.1 = 42 from fun w => y42 ((show (byI T n s2.1 = 42) = _ from byI_sym (c := 42) (hT _) (by decide)).mp w)), if_neg (show ¬ byI T n s2.1 = 43 from fun w => y43 ((show (byI T n s2.1 = 43) = _ from byI_sym (c := 43) (hT _) (by decide)).mp w)), if_neg (show ¬ byI T n s2.1 = 45 from fun w => y45 ((show (byI T n s2.1 = 45) = _ from byI_sym (c := 45) (hT _) (by decide)).mp w))]
      show (f_X11_has (nI W.length) 13 τ4).bind _ = _
      rw [hs4, bS, if_pos rfl, d1, bS]
    rw [show f_X11_sum_5 (nI W.length) FU τ = _ from x, f_X11_sum_36, a1, bS]
    show (if byI T n s2.1 = 41 then (f_X11_has (nI W.length) 13 τ3).bind _ else f_X11_sum_106 (nI W.length) τ3 (f_X11_sum_5 (nI W.length) m2)) = _
    rw [s106, hs3, bS, if_pos rfl]
    by_cases c : byI T n s2.1 = 41
    · rw [if_pos c]
    · rw [if_neg c]
end SU
