/-! the reference's clauses -/
def LoM (N : Nat) (τ0 τ : St) : Prop := ∀ i, i < N → τ.2.1 22 i = τ0.2.1 22 i ∧ τ.2.1 23 i = τ0.2.1 23 i ∧ τ.2.1 24 i = τ0.2.1 24 i ∧ τ.2.1 25 i = τ0.2.1 25 i ∧ τ.2.1 26 i = τ0.2.1 26 i ∧ τ.2.1 27 i = τ0.2.1 27 i
set_option maxHeartbeats 200000 in
theorem LoM.tr {N N' : Nat} {σ0 σ σ' : St} (h : LoM N σ0 σ) (g : LoM N' σ σ') (hn : N ≤ N') : LoM N σ0 σ' := fun i hi => by
  obtain ⟨a1, a2, a3, a4, a5, a6⟩ := h i hi
  obtain ⟨b1, b2, b3, b4, b5, b6⟩ := g i (by omega)
  exact ⟨b1.trans a1, b2.trans a2, b3.trans a3, b4.trans a4, b5.trans a5, b6.trans a6⟩
set_option maxHeartbeats 200000 in
theorem LoM.fr {N : Nat} {σ σ' : St} {Ks Ls : List Nat} (f : Fr Ks [28, 29, 30] Ls σ σ') : LoM N σ σ' := fun i _ => by
  rw [f.2.1 22 (by decide), f.2.1 23 (by decide), f.2.1 24 (by decide), f.2.1 25 (by decide), f.2.1 26 (by decide), f.2.1 27 (by decide)]
  exact ⟨rfl, rfl, rfl, rfl, rfl, rfl⟩
def KK (k : Nat) (τ0 τ : St) : Prop := Fr [35, 38, 39, 40, 41, 42, 43] [21, 22, 23, 24, 25, 26, 27, 28, 29, 30] [] τ0 τ ∧ (∀ i, i < k → τ.2.1 21 i = τ0.2.1 21 i) ∧ LoM (12 * k) τ0 τ ∧ ∀ i, i < 420 * k → τ.2.1 28 i = τ0.2.1 28 i ∧ τ.2.1 29 i = τ0.2.1 29 i
set_option maxHeartbeats 200000 in
theorem KK.mv {k : Nat} {τ0 τ τ' : St} (h : KK k τ0 τ) (g : KM k τ τ') : KK k τ0 τ' := ⟨h.1.tr (g.1.up (by decide)), fun i hi => by rw [g.1.2.1 21 (by decide)]; exact h.2.1 i hi, h.2.2.1.tr (N' := 12 * k) (LoM.fr g.1) (Nat.le_refl _), fun i hi => ⟨(g.2 i hi).1.trans (h.2.2.2 i hi).1, (g.2 i hi).2.trans (h.2.2.2 i hi).2⟩⟩
set_option maxHeartbeats 200000 in
theorem KK.far {k N : Nat} {τ0 τ τ' : St} (h : KK k τ0 τ) (f : Fr [] [21, 22, 23, 24, 25, 26, 27] [] τ τ') (g : ∀ i, i < k → τ'.2.1 21 i = τ.2.1 21 i) (l : LoM N τ τ') (hN : 12 * k ≤ N) : KK k τ0 τ' := ⟨h.1.tr (f.up (by decide)), fun i hi => (g i hi).trans (h.2.1 i hi), h.2.2.1.tr l hN, fun i hi => by rw [f.2.1 28 (by decide), f.2.1 29 (by decide)]; exact h.2.2.2 i hi⟩
def rQ (τ : St) (k c : Nat) (C : Cl) : Prop := τ.2.1 22 (12 * k + c) = nI (thM C.1) ∧ τ.2.1 23 (12 * k + c) = C.2.1 ∧ τ.2.1 27 (12 * k + c) = nI C.2.2.1 ∧ τ.2.1 24 (12 * k + c) = nI C.2.2.2.1 ∧ τ.2.1 25 (12 * k + c) = nI C.2.2.2.2.1 ∧ τ.2.1 26 (12 * k + c) = nI C.2.2.2.2.2
set_option maxHeartbeats 200000 in
theorem rQ.lo {τ τ' : St} {k c N : Nat} {C : Cl} (h : rQ τ k c C) (l : LoM N τ τ') (hc : 12 * k + c < N) : rQ τ' k c C := by
  obtain ⟨a1, a2, a3, a4, a5, a6⟩ := h
  obtain ⟨b1, b2, b3, b4, b5, b6⟩ := l _ hc
  exact ⟨b1.trans a1, b2.trans a2, b6.trans a3, b3.trans a4, b4.trans a5, b5.trans a6⟩
def MJ (T : Nat → Nat) (n k : Nat) (τ0 τ : St) (q : Nat) (s : PS) (cs : List Cl) (j : Nat) : Prop := MR T n k τ τ q s 0 [] ∧ τ.2.1 21 k = nI j ∧ (∀ c, c < cs.length → rQ τ k c (cs.getD c cl0)) ∧ KK k τ0 τ
def MFK (k : Nat) (τ0 τ : St) (f : Nat) : Prop := τ.1 39 = nI f ∧ KK k τ0 τ
def RM (T : Nat → Nat) (n k : Nat) (τ0 : St) (X : Option (Int32 × St)) (r : CT) : Prop := match r with
  | .inl f => ∃ τ', X = some (0, τ') ∧ MFK k τ0 τ' f
  | .inr c => ∃ τ' q', X = some (1, τ') ∧ MJ T n k τ0 τ' q' c.1 c.2 c.2.length
section MC
variable {T : Nat → Nat} {n k q q' j : Nat} {τ0 τ τ' : St} {s s' : PS} {cs : List Cl}
set_option maxHeartbeats 200000 in
theorem MR.self {d : Nat} {W : List Int32} (h : MR T n k τ0 τ q s d W) : MR T n k τ τ q s d W := ⟨h.1, h.2.1, h.2.2.1, h.2.2.2.1, h.2.2.2.2.1, h.2.2.2.2.2.1, Fr.rf, fun _ _ => ⟨rfl, rfl⟩⟩
set_option maxHeartbeats 200000 in
theorem MR.far {d : Nat} {W : List Int32} (h : MR T n k τ τ q s d W) (f : Fr [] [21, 22, 23, 24, 25, 26, 27] [] τ τ') : MR T n k τ' τ' q s d W := by
  obtain ⟨h1, h2, ⟨a1, a2, a3, a4, a5, a6⟩, h4, h5, h6, h7⟩ := h
  refine ⟨h1.fr f (by decide), ⟨h2.1, (f.1 38 (by decide)).trans h2.2.1, h2.2.2⟩, ⟨(f.1 39 (by decide)).trans a1, (f.1 41 (by decide)).trans a2, (f.1 42 (by decide)).trans a3, (f.1 43 (by decide)).trans a4, (f.1 35 (by decide)).trans a5, (f.1 25 (by decide)).trans a6⟩, h4, ?_, ?_, Fr.rf, fun _ _ => ⟨rfl, rfl⟩⟩
  · rw [f.2.1 30 (by decide)]; exact h5
  · rw [f.2.1 28 (by decide), f.2.1 29 (by decide)]; exact h6
set_option maxHeartbeats 200000 in
theorem MJ.mv (h : MJ T n k τ0 τ q s cs j) (g : MR T n k τ τ' q' s' 0 []) : MJ T n k τ0 τ' q' s' cs j := by
  obtain ⟨h1, h2, h3, h4⟩ := h
  have f := g.2.2.2.2.2.2
  exact ⟨g.self, by rw [f.1.2.1 21 (by decide)]; exact h2, fun c hc => (h3 c hc).lo (N := 12 * k + c + 1) (LoM.fr f.1) (by omega), h4.mv f⟩
set_option maxHeartbeats 200000 in
theorem MJ.flt {fl : Nat} (h : MJ T n k τ0 τ q s cs j) (g : MF T n k τ τ' fl) : MFK k τ0 τ' fl := ⟨g.2.1, h.2.2.2.mv g.2.2.2⟩
set_option maxHeartbeats 200000 in
theorem MJ.far (h : MJ T n k τ0 τ q s cs j) (f : Fr [] [22, 23, 24, 25, 26, 27] [] τ τ') (l : LoM (12 * k + cs.length) τ τ') : MJ T n k τ0 τ' q s cs j := by
  obtain ⟨h1, h2, h3, h4⟩ := h
  exact ⟨h1.far (f.up (by decide)), by rw [f.2.1 21 (by decide)]; exact h2, fun c hc => (h3 c hc).lo l (by omega), h4.far (f.up (by decide)) (fun i _ => by rw [f.2.1 21 (by decide)]) l (by omega)⟩
set_option maxHeartbeats 200000 in
theorem MJ.see (h : MJ T n k τ0 τ q s cs j) : ∃ τ', f_X11_see τ = some (byI T n s.1, τ') ∧ MJ T n k τ0 τ' s.1 s cs j ∧ Fr [38] [] [] τ τ' := by
  obtain ⟨τ', r1, r2⟩ := h.1.see
  obtain ⟨τ2, x1, x2, x3⟩ := seeM h.1.1 h.1.2.1.2.1 h.1.2.1.1
  rw [r1] at x1
  have : τ' = τ2 := (Prod.mk.inj (Option.some.inj x1)).2
  exact ⟨τ', r1, h.mv r2, by rw [this]; exact x3⟩
set_option maxHeartbeats 200000 in
theorem MJ.wd (h : MJ T n k τ0 τ q s cs j) {w : Nat} (hw : w < 24) : ∃ τ', f_X11_isWord (Int64.ofNat (wc_ w)) τ = some (if wdB T n s.1 (wl_ w) then 1 else 0, τ') ∧ MJ T n k τ0 τ' s.1 s cs j ∧ Fr [38] [] [] τ τ' := by
  obtain ⟨τ', r1, r2⟩ := h.1.wd hw
  obtain ⟨τ2, x1, x2, x3⟩ := isWM h.1.1 h.1.2.1.2.1 h.1.2.1.1 (wdM hw)
  rw [r1] at x1
  have : τ' = τ2 := (Prod.mk.inj (Option.some.inj x1)).2
  exact ⟨τ', r1, h.mv r2, by rw [this]; exact x3⟩
set_option maxHeartbeats 200000 in
theorem MJ.skip (h : MJ T n k τ0 τ s.1 s cs j) (hl : s.1 < n ∧ isLo (T s.1) = true) : ∃ τ' q', f_X11_skips τ = some τ' ∧ MJ T n k τ0 τ' q' (stp T n s) cs j ∧ Fr [38] [] [] τ τ' := by
  have n4 := h.1.1.1
  obtain ⟨τ', q', r1, r2⟩ := h.1.skip hl
  obtain ⟨τ2, x1, x2, x3⟩ := skipM (n - s.1) s.1 FU τ h.1.1 h.1.2.1.2.1 rfl h.1.pl (by unfold FU; omega)
  have x1 : f_X11_skips τ = some τ2 := x1
  rw [r1] at x1
  have : τ' = τ2 := Option.some.inj x1
  exact ⟨τ', q', r1, h.mv r2, by rw [this]; exact x3⟩
set_option maxHeartbeats 200000 in
theorem MJ.takes (h : MJ T n k τ0 τ q s cs j) {w : Nat} (hw : w < 24) : ∃ τ' q', f_X11_takesWord (Int64.ofNat (wc_ w)) τ = some (if wdB T n s.1 (wl_ w) then 1 else 0, τ') ∧ MJ T n k τ0 τ' q' (if wdB T n s.1 (wl_ w) = true then stp T n s else s) cs j ∧ Fr [38] [] [] τ τ' := by
  obtain ⟨τ1, a1, a2, a3⟩ := h.wd hw
  unfold f_X11_takesWord
  by_cases c : wdB T n s.1 (wl_ w) = true
  · obtain ⟨τ2, q2, b1, b2, b3⟩ := a2.skip (wdB_lo c)
    refine ⟨τ2, q2, ?_, by rw [if_pos c]; exact b2, a3.tr b3⟩
    rw [a1, bS, if_pos c, if_neg (show ¬ (1 : Int32) = 0 by decide)]
    show (f_X11_skips τ1).bind _ = _
    rw [b1, bS]
  · refine ⟨τ1, s.1, ?_, by rw [if_neg c]; exact a2, a3⟩
    rw [a1, bS, if_neg c, if_pos rfl]
set_option maxHeartbeats 200000 in
theorem m380 (h : MJ T n k τ0 τ q s cs (cs.length + 1)) (hl : cs.length < 12) {t z a b : Nat} {y : Int32} (r1 : τ.2.1 22 (12 * k + cs.length) = nI (thM t)) (r2 : τ.2.1 23 (12 * k + cs.length) = y) (r3 : τ.2.1 27 (12 * k + cs.length) = nI z) (r4 : τ.2.1 24 (12 * k + cs.length) = nI a) (r5 : τ.2.1 25 (12 * k + cs.length) = nI b) : ∃ τ' q', f_X11_clause_380 (nI (12 * k + cs.length)) τ = some (1, τ') ∧ MJ T n k τ0 τ' q' s (cs ++ [(t, y, z, a, b, s.2.2.length)]) (cs ++ [(t, y, z, a, b, s.2.2.length)]).length := by
  have hk := h.1.2.2.2.1.2.1
  have e5 : τ.1 35 = nI s.2.2.length := h.1.2.2.1.2.2.2.2.1
  have f1 : Fr [] [22, 23, 24, 25, 26, 27] [] τ (sA τ 26 (12 * k + cs.length) (nI s.2.2.length)) := Fr.rf.wA (by decide)
  have l1 : LoM (12 * k + cs.length) τ (sA τ 26 (12 * k + cs.length) (nI s.2.2.length)) := fun i hi => ⟨rfl, rfl, rfl, rfl, upd_ne _ _ (by omega), rfl⟩
  have ll : (cs ++ [(t, y, z, a, b, s.2.2.length)]).length = cs.length + 1 := by rw [List.length_append]; rfl
  obtain ⟨g1, g2, g3, g4⟩ := h.far f1 l1
  refine ⟨sA τ 26 (12 * k + cs.length) (nI s.2.2.length), q, ?_, g1, by rw [ll]; exact g2, fun c hc => ?_, g4⟩
  · unfold f_X11_clause_380
    rw [show gF τ 35 = _ from e5, wrM_26 (by omega), bS]
  · rw [ll] at hc
    by_cases e : c = cs.length
    · rw [e, getD_new]
      exact ⟨r1, r2, r3, r4, r5, upd_at _ _ _⟩
    · rw [getD_app (show c < cs.length by omega)]
      exact g3 c (by omega)
set_option maxHeartbeats 200000 in
theorem th7 {t : Nat} (h : t ≤ 6) : ¬ nI (thM t) = 7 := by
  have : thM t ≤ 6 := by unfold thM; split <;> (try split) <;> (try split) <;> omega
  rw [show (7 : Int32) = nI 7 from rfl, nI_eqE (by omega) (by omega)]; omega
set_option maxHeartbeats 200000 in
theorem m302 (hc : CnM τ0) (hT : ∀ i, T i < 256) (h : MJ T n k τ0 τ q s cs (cs.length + 1)) (hl : cs.length < 12) (g : GdR n s) {t a : Nat} {y : Int32} (ht : t ≤ 6) (r1 : τ.2.1 22 (12 * k + cs.length) = nI (thM t)) (r2 : τ.2.1 23 (12 * k + cs.length) = y) (r4 : τ.2.1 24 (12 * k + cs.length) = nI a) : RM T n k τ0 (f_X11_clause_302 (nI (12 * k + cs.length)) τ) (aCond T n cs t y a s) := by
  have hk := h.1.2.2.2.1.2.1
  have nb := nx_b (T := T) (n := n) g.1
  have gs1 : GdR n (stp T n s) := ⟨nb.1, Nat.le_trans g.2.1 nb.2.1, g.2.2⟩
  have e5 : τ.1 35 = nI s.2.2.length := h.1.2.2.1.2.2.2.2.1
  have f1 : Fr [] [22, 23, 24, 25, 26, 27] [] τ (sA τ 25 (12 * k + cs.length) (nI s.2.2.length)) := Fr.rf.wA (by decide)
  have h1 : MJ T n k τ0 (sA τ 25 (12 * k + cs.length) (nI s.2.2.length)) q s cs (cs.length + 1) := h.far f1 (fun i hi => ⟨rfl, rfl, rfl, upd_ne _ _ (by omega), rfl, rfl⟩)
  have r5 : (sA τ 25 (12 * k + cs.length) (nI s.2.2.length)).2.1 25 (12 * k + cs.length) = nI s.2.2.length := upd_at _ _ _
  obtain ⟨τ1, q1, a1, a2, a3⟩ := h1.takes (w := 10) (by decide)
  have st : f_X11_clause_302 (nI (12 * k + cs.length)) τ = if (if wdB T n s.1 (wl_ 10) = true then 1 else 0 : Int32) = 0 then ((f_X11_takesWord 129117125440371 τ1).bind fun u105 => if u105.1 = 0 then f_X11_clause_360 (nI (12 * k + cs.length)) (nI (12 * k + cs.length)) 0 u105.2 else f_X11_clause_360 (nI (12 * k + cs.length)) (nI (12 * k + cs.length)) 2 u105.2) else f_X11_clause_360 (nI (12 * k + cs.length)) (nI (12 * k + cs.length)) 1 τ1 := by
    unfold f_X11_clause_302
    rw [show gF τ 35 = _ from e5, wrM_25 (by omega), bS, rdM_22 (by omega), bS, show (sA τ 25 (12 * k + cs.length) (nI s.2.2.length)).2.1 22 (12 * k + cs.length) = _ from r1, if_neg (th7 ht), show f_X11_takesWord 26982 _ = _ from a1, bS]
  have two : ∀ (z : Nat) (τa : St) (qa : Nat), (z = 1 ∨ z = 2) → MJ T n k τ0 τa qa (stp T n s) cs (cs.length + 1) → Fr [38] [] [] (sA τ 25 (12 * k + cs.length) (nI s.2.2.length)) τa → RM T n k τ0 (f_X11_clause_360 (nI (12 * k + cs.length)) (nI (12 * k + cs.length)) (nI z) τa) (bnC (AG T n 120 0 0 (stp T n s)) (fun s2 => .inr (s2, cs ++ [(t, y, z, a, s.2.2.length, s2.2.2.length)]))) := by
    intro z τa qa hz ha fa
    have f2 : Fr [] [22, 23, 24, 25, 26, 27] [] τa (sA τa 27 (12 * k + cs.length) (nI z)) := Fr.rf.wA (by decide)
    have h2 : MJ T n k τ0 (sA τa 27 (12 * k + cs.length) (nI z)) qa (stp T n s) cs (cs.length + 1) := ha.far f2 (fun i hi => ⟨rfl, rfl, rfl, rfl, rfl, upd_ne _ _ (by omega)⟩)
    have cn : CnM (sA τa 27 (12 * k + cs.length) (nI z)) := by
      have e := h2.2.2.2.1.2.2
      unfold CnM at hc ⊢
      rw [e 31 (by decide), e 32 (by decide)]
      exact hc
    have tr := testAll cn hT (f := 120) (d := 0) (W := []) (by omega) (by omega) gs1 (Nat.zero_le _) h2.1
    unfold f_X11_clause_360 f_X11_clause_361
    rw [wrM_27 (by omega), bS, rdM_27 (by omega), bS, show (sA τa 27 (12 * k + cs.length) (nI z)).2.1 27 (12 * k + cs.length) = nI z from upd_at _ _ _, if_neg (show ¬ nI z ≤ 0 from by rw [nI_le0 (by omega)]; omega)]
    cases er : AG T n 120 0 0 (stp T n s) with
    | inl fl =>
      rw [er] at tr
      obtain ⟨τb, x1, x2⟩ := tr
      exact ⟨τb, by rw [x1, bS, if_pos rfl], h2.flt x2⟩
    | inr s2 =>
      rw [er] at tr
      obtain ⟨τb, qb, x1, x2⟩ := tr
      have fb := x2.2.2.2.2.2.2.1
      have hb := h2.mv x2
      obtain ⟨τc, qc, y1, y2⟩ := m380 hb hl (t := t) (z := z) (a := a) (b := s.2.2.length) (y := y) (by rw [fb.2.1 22 (by decide)]; show τa.2.1 22 _ = _; rw [fa.2.1 22 (by decide)]; exact r1) (by rw [fb.2.1 23 (by decide)]; show τa.2.1 23 _ = _; rw [fa.2.1 23 (by decide)]; exact r2) (by rw [fb.2.1 27 (by decide)]; exact upd_at _ _ _) (by rw [fb.2.1 24 (by decide)]; show τa.2.1 24 _ = _; rw [fa.2.1 24 (by decide)]; exact r4) (by rw [fb.2.1 25 (by decide)]; show τa.2.1 25 _ = _; rw [fa.2.1 25 (by decide)]; exact r5)
      refine ⟨τc, qc, ?_, y2⟩
      rw [x1, bS, if_neg (show ¬ (1 : Int32) = 0 by decide)]
      exact y1
  unfold aCond
  by_cases c1 : wdB T n s.1 (wl_ 10) = true
  · rw [if_pos c1, if_neg (show ¬ (1 : Int32) = 0 by decide)] at st
    rw [if_pos c1] at a2
    rw [st, if_pos c1]
    exact two 1 τ1 q1 (Or.inl rfl) a2 a3
  · rw [if_neg c1, if_pos rfl] at st
    rw [if_neg c1] at a2
    obtain ⟨τ2, q2, b1, b2, b3⟩ := a2.takes (w := 11) (by decide)
    rw [show f_X11_takesWord 129117125440371 τ1 = _ from b1, bS] at st
    rw [st, if_neg c1]
    by_cases c2 : wdB T n s.1 (wl_ 11) = true
    · rw [if_pos c2] at b2
      rw [if_pos c2, if_pos c2, if_neg (show ¬ (1 : Int32) = 0 by decide)]
      exact two 2 τ2 q2 (Or.inr rfl) b2 (a3.tr b3)
    · rw [if_neg c2] at b2
      rw [if_neg c2, if_neg c2, if_pos rfl]
      have fa := a3.tr b3
      have f2 : Fr [] [22, 23, 24, 25, 26, 27] [] τ2 (sA τ2 27 (12 * k + cs.length) (nI 0)) := Fr.rf.wA (by decide)
      have h2 : MJ T n k τ0 (sA τ2 27 (12 * k + cs.length) (nI 0)) q2 s cs (cs.length + 1) := b2.far f2 (fun i hi => ⟨rfl, rfl, rfl, rfl, rfl, upd_ne _ _ (by omega)⟩)
      obtain ⟨τc, qc, y1, y2⟩ := m380 h2 hl (t := t) (z := 0) (a := a) (b := s.2.2.length) (y := y) (by show τ2.2.1 22 _ = _; rw [fa.2.1 22 (by decide)]; exact r1) (by show τ2.2.1 23 _ = _; rw [fa.2.1 23 (by decide)]; exact r2) (upd_at _ _ _) (by show τ2.2.1 24 _ = _; rw [fa.2.1 24 (by decide)]; exact r4) (by show τ2.2.1 25 _ = _; rw [fa.2.1 25 (by decide)]; exact r5)
      refine ⟨τc, qc, ?_, y2⟩
      show f_X11_clause_360 (nI (12 * k + cs.length)) (nI (12 * k + cs.length)) (nI 0) τ2 = _
      unfold f_X11_clause_360 f_X11_clause_361
      rw [wrM_27 (by omega), bS, rdM_27 (by omega), bS, show (sA τ2 27 (12 * k + cs.length) (nI 0)).2.1 27 (12 * k + cs.length) = nI 0 from upd_at _ _ _, if_pos (by decide)]
      exact y1
end MC
