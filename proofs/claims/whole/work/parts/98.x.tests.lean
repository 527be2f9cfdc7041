/-! the reference's tests, all of them -/
section TX
variable {T : Nat → Nat} {n k : Nat} {τ0 : St}
def HN (T : Nat → Nat) (n k : Nat) (τ0 : St) (f : Nat) : Prop := ∀ (d : Nat) (s : PS) (Wb V : List Int32) (q : Nat) (τ : St) (m : Nat), d ≤ 10 → GdR n s → (V ++ Wb).length ≤ s.1 → MR T n k τ0 τ q s d (V ++ Wb) → n - s.1 < m → (7 * (10 - d) + 7 - 2 < f → RF T n k τ0 (f_X11_test_5 (nI Wb.length) m τ) (AG T n f 2 d s) (QF T n k τ0 Wb.length d (V ++ Wb))) ∧ (7 * (10 - d) + 7 - 1 < f → V.head? ≠ some 10 → V.head? ≠ some 11 → RF T n k τ0 (f_X11_test_5 (nI Wb.length) m τ) (AG T n f 1 d s) (QA T n k τ0 Wb.length d (V ++ Wb))) ∧ (7 * (10 - d) + 7 - 0 < f → V.head? ≠ some 10 → V.head? ≠ some 11 → V.head? ≠ some 12 → RF T n k τ0 (f_X11_test_5 (nI Wb.length) m τ) (AG T n f 0 d s) (QO T n k τ0 Wb.length d (V ++ Wb)))
set_option maxHeartbeats 200000 in
theorem MR.go2 {q d : Nat} {τ : St} {s : PS} {W : List Int32} (h : MR T n k τ0 τ s.1 s d W) (hw : wdB T n s.1 (wl_ 14) = true) : MR T n k τ0 (sF τ 38 (gF τ 38 + 2)) (s.1 + 2) (stp T n s) d W := by
  have hl := wdB_lo hw
  have e2 : ev T n isLo s.1 = s.1 + 2 := (of_decide_eq_true (Bool.and_eq_true_iff.mp hw).1).2.2
  have ge := (ev_ge (T := T) (n := n) (q := isLo) (n - s.1) s.1 rfl).2.1 h.pl
  rw [e2] at ge
  refine h.mv (Fr.rf.wF (by decide)) ?_ ge ?_
  · show gF τ 38 + 2 = _
    rw [show gF τ 38 = _ from h.2.1.2.1]; exact nI_add _ 2
  · show _ = ev T n isSp (tkE T n s.1)
    rw [tkE_lo hl, e2]
set_option maxHeartbeats 200000 in
theorem no165 {τ : St} {q d : Nat} {s : PS} {l W : List Int32} {x1 : Int32} {k5 : St → Option (Int32 × St)} (h : PN T n k τ0 τ q s d l W) (c1 : ¬ wdB T n s.1 (wl_ 13) = true) (c2 : ¬ wdB T n s.1 (wl_ 12) = true) : ∃ τ', f_X11_test_165 x1 τ k5 = f_X11_test_189 x1 τ' ∧ PN T n k τ0 τ' s.1 s d l W := by
  obtain ⟨τ2, b1, b2⟩ := h.wd (w := 13) (by decide)
  obtain ⟨τ3, b3, b4⟩ := b2.wd (w := 12) (by decide)
  refine ⟨τ3, ?_, b4⟩
  unfold f_X11_test_165
  rw [show f_X11_isWord 6385252 τ = _ from b1, bS, if_neg c1, if_pos rfl]
  show (f_X11_isWord 28530 τ2).bind _ = _
  rw [show f_X11_isWord 28530 τ2 = _ from b3, bS, if_neg c2, if_pos rfl]
set_option maxHeartbeats 200000 in
theorem factsM (hc : CnM τ0) (hT : ∀ i, T i < 256) {f : Nat} (ih : HN T n k τ0 f) {d : Nat} {s : PS} {Wb V : List Int32} {q : Nat} {τ : St} {m : Nat} (hd : d ≤ 10) (g : GdR n s) (hW : (V ++ Wb).length ≤ s.1) (h : MR T n k τ0 τ q s d (V ++ Wb)) (hm : n - s.1 < m) (hf : 7 * (10 - d) + 7 - 2 < f + 1) : RF T n k τ0 (f_X11_test_5 (nI Wb.length) m τ) (aFact T n (AG T n f) d s) (QF T n k τ0 Wb.length d (V ++ Wb)) := by
  obtain ⟨m, rfl⟩ : ∃ z, m = z + 1 := ⟨m - 1, by omega⟩
  have n4 := h.1.1
  have g1 := g.1
  have nb := nx_b (T := T) (n := n) g.1
  have gs1 : GdR n (stp T n s) := ⟨nb.1, Nat.le_trans g.2.1 nb.2.1, g.2.2⟩
  obtain ⟨τ1, a1, a2⟩ := h.see
  obtain ⟨τ2, b1, b2⟩ := a2.wd (w := 14) (by decide)
  have i91 : (byI T n s.1 = 91) = (sym T n s.1 91 = true) := byI_sym (c := 91) (hT _) (by decide)
  have st : f_X11_test_5 (nI Wb.length) (m + 1) τ = if (if wdB T n s.1 (wl_ 14) = true then 1 else 0 : Int32) = 0 then (if byI T n s.1 = 91 then f_X11_test_28 (nI Wb.length) (if wdB T n s.1 (wl_ 14) = true then 1 else 0) τ2 (f_X11_test_5 (nI Wb.length) m) else (f_X11_fact τ2).bind fun u56 => if u56.1 = 0 then some (0, u56.2) else (f_X11_endedFact (nI Wb.length) u56.2).bind fun σ57 => f_X11_test_91 (nI Wb.length) (f_X11_test_5 (nI Wb.length) m) FU σ57) else f_X11_test_28 (nI Wb.length) (if wdB T n s.1 (wl_ 14) = true then 1 else 0) τ2 (f_X11_test_5 (nI Wb.length) m) := by
    rw [f_X11_test_5, a1, bS]
    show (f_X11_isWord 28271 τ1).bind _ = _
    rw [show f_X11_isWord 28271 τ1 = _ from b1, bS]
  unfold aFact
  by_cases c1 : wdB T n s.1 (wl_ 14) = true
  · rw [if_pos c1, if_neg (show ¬ (1 : Int32) = 0 by decide)] at st
    rw [if_pos c1]
    unfold f_X11_test_28 at st
    rw [show gF τ2 38 = _ from b2.2.1.2.1] at st
    by_cases c2 : d < 10
    · rw [if_pos c2]
      have nb3 := nb.2.2 (wdB_lt c1)
      obtain ⟨τ3, d1, d2⟩ := b2.opens c2 (nI s.1)
      obtain ⟨τ4, k1, k2⟩ := d2.waits (by omega) 10
      have k3 := k2.go2 (q := s.1) c1
      rw [d1, bS, if_neg (show ¬ (1 : Int32) = 0 by decide)] at st
      have st : f_X11_test_5 (nI Wb.length) (m + 1) τ = bnd (if (1 : Int32) = 0 then 14 else 10 : Int32) fun v59 => (f_X11_waits v59 τ3).bind fun σ60 => bnd (if (1 : Int32) = 0 then 1 else 2 : Int32) fun v61 => bnd (sF σ60 38 ((gF σ60 38) + v61)) fun σ62 => f_X11_test_5 (nI Wb.length) m σ62 := st
      rw [bndE, if_neg (show ¬ (1 : Int32) = 0 by decide), k1, bS, bndE, if_neg (show ¬ (1 : Int32) = 0 by decide), bndE] at st
      have hv := (ih (d + 1) (stp T n s) Wb (10 :: V) (s.1 + 2) _ m (by omega) gs1 (by show (10 :: (V ++ Wb)).length ≤ nx T n s.1; rw [List.length_cons]; omega) k3 (show n - nx T n s.1 < m by omega)).1 (by omega)
      rw [st]
      cases e : AG T n f 2 (d + 1) (stp T n s) with
      | inl fl => rw [e] at hv; exact hv
      | inr s2 =>
        rw [e] at hv
        have o2 := AG_ok (n := n) hT f 2 (d + 1) (stp T n s) s2 (by omega) (by omega) (by omega) nb.1 g.2.2 e
        have gs2 := o2.gd gs1
        obtain ⟨τ5, m5, F5, G5, q5, l1, l2, l3, x, pn⟩ := hv
        have l3 : (10 :: (V ++ Wb)).length < G5 := l3
        rw [List.length_cons] at l3
        obtain ⟨G5, rfl⟩ : ∃ z, G5 = z + 1 := ⟨G5 - 1, by omega⟩
        obtain ⟨τ6, y1, y2⟩ := MR.pops (W := V ++ Wb) pn (by have := gs2.1; have := gs2.2.1; omega) (v := -10) (by decide) (by decide)
        refine ⟨_, m5, F5, G5, q5, l1, l2, by omega, ?_, y2.down⟩
        rw [x]
        unfold aftT
        rw [f_X11_endedFact_0, MR.top (V := 10 :: V) pn 10, bS, if_pos (show (10 :: V).head? = some 10 from rfl), if_neg (by decide), y1, bS, bndE]
    · rw [if_neg c2]
      obtain ⟨τ3, d1, d2⟩ := b2.opensN c2 s.1
      rw [d1, bS, if_pos rfl] at st
      rw [st]
      exact ⟨τ3, rfl, d2⟩
  · rw [if_neg c1, if_pos rfl] at st
    rw [if_neg c1]
    by_cases c3 : sym T n s.1 91 = true
    · rw [if_pos (i91.mpr c3)] at st
      rw [if_pos c3]
      unfold f_X11_test_28 at st
      rw [show gF τ2 38 = _ from b2.2.1.2.1] at st
      by_cases c2 : d < 10
      · rw [if_pos c2]
        have nb3 := nb.2.2 (sym_lt c3)
        obtain ⟨τ3, d1, d2⟩ := b2.opens c2 (nI s.1)
        obtain ⟨τ4, k1, k2⟩ := d2.waits (by omega) 14
        have k3 := k2.go1 c3 (by decide)
        rw [d1, bS, if_neg (show ¬ (1 : Int32) = 0 by decide)] at st
        have st : f_X11_test_5 (nI Wb.length) (m + 1) τ = bnd (if (0 : Int32) = 0 then 14 else 10 : Int32) fun v59 => (f_X11_waits v59 τ3).bind fun σ60 => bnd (if (0 : Int32) = 0 then 1 else 2 : Int32) fun v61 => bnd (sF σ60 38 ((gF σ60 38) + v61)) fun σ62 => f_X11_test_5 (nI Wb.length) m σ62 := st
        rw [bndE, if_pos rfl, k1, bS, bndE, if_pos rfl, bndE] at st
        have hv := (ih (d + 1) (stp T n s) Wb (14 :: V) (s.1 + 1) _ m (by omega) gs1 (by show (14 :: (V ++ Wb)).length ≤ nx T n s.1; rw [List.length_cons]; omega) k3 (show n - nx T n s.1 < m by omega)).2.2 (by omega) (fun z => absurd (Option.some.inj z) (by decide)) (fun z => absurd (Option.some.inj z) (by decide)) (fun z => absurd (Option.some.inj z) (by decide))
        rw [st]
        cases e : AG T n f 0 (d + 1) (stp T n s) with
        | inl fl => rw [e] at hv; exact hv
        | inr s2 =>
          rw [e] at hv
          have o2 := AG_ok (n := n) hT f 0 (d + 1) (stp T n s) s2 (by omega) (by omega) (by omega) nb.1 g.2.2 e
          have gs2 := o2.gd gs1
          have nb2 := nx_b (T := T) (n := n) gs2.1
          have hs2 : s2.2.2.length ≤ 400 := by have := gs2.1; have := gs2.2.1; omega
          obtain ⟨τ5, m5, F5, q5, l, l1, l2, x, pn, hl, y13, y12⟩ := hv
          obtain ⟨F5, rfl⟩ : ∃ z, F5 = z + 1 := ⟨F5 - 1, by omega⟩
          obtain ⟨τ6, y1, y2⟩ := pn.see
          have i93 : (byI T n s2.1 = 93) = (sym T n s2.1 93 = true) := byI_sym (c := 93) (hT _) (by decide)
          show RF T n k τ0 _ (if sym T n s2.1 93 = true then _ else _) _
          by_cases c5 : sym T n s2.1 93 = true
          · rw [if_pos c5]
            have nb4 := nb2.2.2 (sym_lt c5)
            have hs6 : f_X11_has (nI Wb.length) 14 τ6 = some 1 := by
              obtain ⟨c0, z, -⟩ := y2
              exact MR.hasY (X := l) (Y := V) z
            obtain ⟨τ7, z1, z2⟩ := pop110 (V := V) (Wb := Wb) (k91 := f_X11_test_91 (nI Wb.length) (f_X11_test_5 (nI Wb.length) m5) F5) (k5 := f_X11_test_5 (nI Wb.length) m5) hs2 l τ6 FU (by have := hl.2; unfold FU; omega) hl.1 y2
            have d3 := (MR.drop (W := V ++ Wb) z2).down.go1 c5 (by decide)
            refine ⟨_, m5, F5, FU, s2.1 + 1, show n - nx T n s2.1 < m5 by omega, show n - nx T n s2.1 < F5 by omega, by unfold FU; omega, ?_, d3⟩
            rw [x, f_X11_test_91, y1, bS, if_pos (i93.mpr c5)]
            show (f_X11_has (nI Wb.length) 14 τ6).bind _ = _
            rw [hs6, bS, if_neg (by decide)]
            show f_X11_test_110 (nI Wb.length) (f_X11_test_91 (nI Wb.length) (f_X11_test_5 (nI Wb.length) m5) F5) (f_X11_test_5 (nI Wb.length) m5) FU τ6 = _
            rw [z1]; rfl
          · rw [if_neg c5]
            obtain ⟨τ7, z1, z2⟩ := no165 (x1 := nI Wb.length) (k5 := f_X11_test_5 (nI Wb.length) m5) y2 y13 y12
            have hs7 : f_X11_has (nI Wb.length) 14 τ7 = some 1 := by
              obtain ⟨c0, z, -⟩ := z2
              exact MR.hasY (X := l) (Y := V) z
            obtain ⟨c0, z, -⟩ := z2
            obtain ⟨τ8, w1, w2⟩ := z.fail 0 s2.1
            refine ⟨τ8, ?_, w2⟩
            rw [x, f_X11_test_91, y1, bS, if_neg (fun w => c5 (i93.mp w))]
            show f_X11_test_165 (nI Wb.length) τ6 (f_X11_test_5 (nI Wb.length) m5) = _
            rw [z1]
            unfold f_X11_test_189
            rw [hs7, bS, if_neg (by decide), show gF τ7 38 = _ from z.2.1.2.1, show f_X11_fails 0 (nI s2.1) τ7 = _ from w1, bS, nar0]
      · rw [if_neg c2]
        obtain ⟨τ3, d1, d2⟩ := b2.opensN c2 s.1
        rw [d1, bS, if_pos rfl] at st
        rw [st]
        exact ⟨τ3, rfl, d2⟩
    · rw [if_neg (fun z => c3 (i91.mp z))] at st
      rw [if_neg c3]
      obtain ⟨f, rfl⟩ : ∃ z, f = z + 1 := ⟨f - 1, by omega⟩
      have hv : RF T n k τ0 (f_X11_fact τ2) (AG T n (f + 1) 3 d s) (QE T n k τ0 d (V ++ Wb)) := factM hc hT hd (by omega) g hW b2
      rw [st]
      cases e : AG T n (f + 1) 3 d s with
      | inl fl =>
        rw [e] at hv
        obtain ⟨τ3, r1, r2⟩ := hv
        exact ⟨τ3, by rw [r1, bS, if_pos rfl], r2⟩
      | inr s1 =>
        rw [e] at hv
        obtain ⟨τ3, q3, r1, r2⟩ := hv
        have o1 := AG_ok (n := n) hT (f + 1) 3 d s s1 (by omega) hd (by omega) g.1 g.2.2 e
        have o11 := o1.1
        have o12 := o1.2.1
        refine ⟨τ3, m, FU, FU, q3, by omega, by unfold FU; omega, by unfold FU; omega, ?_, r2⟩
        rw [r1, bS, if_neg (show ¬ (1 : Int32) = 0 by decide)]; rfl
set_option maxHeartbeats 200000 in
theorem HN_all (hc : CnM τ0) (hT : ∀ i, T i < 256) : ∀ f, HN T n k τ0 f := by
  intro f
  induction f with
  | zero => intro d s Wb V q τ m _ _ _ _ _; exact ⟨fun h => by omega, fun h => by omega, fun h => by omega⟩
  | succ f ih =>
    intro d s Wb V q τ m hd g hW h hm
    have n4 := h.1.1
    have A := AG_ok (n := n) hT f
    refine ⟨fun hf => factsM hc hT ih hd g hW h hm hf, fun hf v10 v11 => ?_, fun hf v10 v11 v12 => ?_⟩
    · show RF T n k τ0 _ (bnR (AG T n f 2 d s) (aPartL T n (AG T n f) d 400)) _
      have hv := (ih d s Wb V q τ m hd g hW h hm).1 (by omega)
      cases e : AG T n f 2 d s with
      | inl fl => rw [e] at hv; exact hv
      | inr s1 =>
        rw [e] at hv
        have o1 : OkR n true s s1 := A 2 d s s1 (by omega) hd (by omega) g.1 g.2.2 e
        have o2 := o1.1
        obtain ⟨τ1, m1, F1, G1, q1, l1, l2, l3, x1, x2⟩ := hv
        rw [x1]
        unfold aftT
        rw [ended x2 v10 (by omega), bS]
        exact partM hT (ra := AG T n f) (fun s Wb V q τ m y1 y2 y3 y4 => (ih d s Wb V q τ m hd y1 y2 y3 y4).1 (by omega)) (fun s s' => A 2 d s s' (by omega) hd (by omega)) v11 400 s s1 q1 τ1 m1 F1 [] (by omega) g o1 hW (PN.of x2) (Or.inl rfl) l1 l2
    · show RF T n k τ0 _ (bnR (AG T n f 1 d s) (aTestL T n (AG T n f) d 400)) _
      have hv := (ih d s Wb V q τ m hd g hW h hm).2.1 (by omega) v10 v11
      cases e : AG T n f 1 d s with
      | inl fl => rw [e] at hv; exact hv
      | inr s1 =>
        rw [e] at hv
        have o1 : OkR n true s s1 := A 1 d s s1 (by omega) hd (by omega) g.1 g.2.2 e
        have o2 := o1.1
        obtain ⟨τ1, m1, F1, q1, l, l1, l2, x1, x2, x3, x4⟩ := hv
        rw [x1]
        exact testM hT (ra := AG T n f) (fun s Wb V q τ m y1 y2 y3 y4 y5 y6 => (ih d s Wb V q τ m hd y1 y2 y3 y4).2.1 (by omega) y5 y6) (fun s s' => A 1 d s s' (by omega) hd (by omega)) v11 v12 400 s s1 q1 τ1 m1 F1 l (by omega) g o1 hW x2 (by rcases x3 with rfl | rfl <;> decide) x4 l1 l2
set_option maxHeartbeats 200000 in
theorem testAll (hc : CnM τ0) (hT : ∀ i, T i < 256) {f d q : Nat} {s : PS} {W : List Int32} {τ : St} (hd : d ≤ 10) (hf : 7 * (10 - d) + 7 - 0 < f) (g : GdR n s) (hW : W.length ≤ s.1) (h : MR T n k τ0 τ q s d W) : RF T n k τ0 (f_X11_test τ) (AG T n f 0 d s) (QE T n k τ0 d W) := by
  have n4 := h.1.1
  have st : f_X11_test τ = f_X11_test_5 (nI W.length) FU τ := by
    unfold f_X11_test
    rw [bndE, show gF τ 43 = _ from h.2.2.1.2.2.2.1]
  have hv := (HN_all hc hT f d s W [] q τ FU hd g hW h (by unfold FU; omega)).2.2 hf (fun z => by cases z) (fun z => by cases z) (fun z => by cases z)
  rw [st]
  cases e : AG T n f 0 d s with
  | inl fl => rw [e] at hv; exact hv
  | inr s2 =>
    rw [e] at hv
    have o2 := AG_ok (n := n) hT f 0 d _ s2 (by omega) hd hf g.1 g.2.2 e
    have gs2 := o2.gd g
    have hs2 : s2.2.2.length ≤ 400 := by have := gs2.1; have := gs2.2.1; omega
    obtain ⟨τ2, m2, F2, q2, l, l1, l2, x, pn, hl, y13, y12⟩ := hv
    obtain ⟨F2, rfl⟩ : ∃ z, F2 = z + 1 := ⟨F2 - 1, by omega⟩
    have no14 : (14 : Int32) ∉ l := fun z => absurd (hl.1 14 z) (by decide)
    obtain ⟨τ3, a1, a2⟩ := pn.see
    have hs3 : f_X11_has (nI W.length) 14 τ3 = some 0 := by
      obtain ⟨c0, z, -⟩ := a2
      exact MR.hasN (V := l) (Wb := W) z no14
    obtain ⟨τ4, b1, b2⟩ := no165 (x1 := nI W.length) (k5 := f_X11_test_5 (nI W.length) m2) a2 y13 y12
    have hs4 : f_X11_has (nI W.length) 14 τ4 = some 0 := by
      obtain ⟨c0, z, -⟩ := b2
      exact MR.hasN (V := l) (Wb := W) z no14
    obtain ⟨τ5, d1, d2⟩ := pop267 (Wb := W) hs2 l τ4 FU (by have := hl.2; unfold FU; omega) hl.1 b2
    refine ⟨τ5, s2.1, ?_, d2⟩
    have s165 : f_X11_test_165 (nI W.length) τ3 (f_X11_test_5 (nI W.length) m2) = some (1, τ5) := by
      rw [b1]
      unfold f_X11_test_189
      rw [hs4, bS, if_pos rfl, d1]
    rw [show f_X11_test_5 (nI W.length) FU τ = _ from x, f_X11_test_91, a1, bS]
    show (if byI T n s2.1 = 93 then (f_X11_has (nI W.length) 14 τ3).bind _ else f_X11_test_165 (nI W.length) τ3 (f_X11_test_5 (nI W.length) m2)) = _
    rw [s165, hs3, bS, if_pos rfl]
    by_cases c : byI T n s2.1 = 93
    · rw [if_pos c]
    · rw [if_neg c]
end TX
