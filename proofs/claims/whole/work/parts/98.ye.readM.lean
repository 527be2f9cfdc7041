/-! the reference reads a clause -/
set_option maxHeartbeats 200000 in
theorem wd_ex {T : Nat → Nat} {n p : Nat} {a b : List Nat} (h1 : wdB T n p a = true) (h2 : wdB T n p b = true) : a = b := by
  obtain ⟨x1, x2⟩ := Bool.and_eq_true_iff.mp h1
  obtain ⟨y1, y2⟩ := Bool.and_eq_true_iff.mp h2
  have e1 := (of_decide_eq_true x1).2.2
  have e2 := (of_decide_eq_true y1).2.2
  have el : a.length = b.length := by omega
  have t1 := (tl_eq T a p).mpr x2
  have t2 := (tl_eq T b p).mpr y2
  rw [← t1, ← t2, el]
def ownM (k : Nat) (τ0 : St) (x1 : Int32) (N : Nat) : Bool := decide (N < k ∧ τ0.2.1 19 N = x1)
section RD
variable {T : Nat → Nat} {n k q j : Nat} {τ0 τ τ' : St} {s : PS} {cs : List Cl} {x1 : Int32}
set_option maxHeartbeats 200000 in
theorem CnM.mv (hc : CnM τ0) (h : KK k τ0 τ) : CnM τ := by
  have e := h.1.2.2
  unfold CnM at hc ⊢
  rw [e 31 (by decide), e 32 (by decide)]
  exact hc
set_option maxHeartbeats 200000 in
theorem MR.numN {d : Nat} {W : List Int32} (h : MR T n k τ0 τ q s d W) (hd : ¬ (s.1 < n ∧ isDg (T s.1) = true)) : ∃ τ', f_X11_number τ = some (0, τ') ∧ MF T n k τ0 τ' (1 + 8 * s.1 + 0) := by
  obtain ⟨τ1, a1, a2⟩ := h.see
  obtain ⟨τ2, b1, b2⟩ := a2.fail 0 s.1
  refine ⟨τ2, ?_, b2⟩
  unfold f_X11_number
  rw [a1, bS]
  show (f_X11_isDigit τ1).bind _ = _
  rw [digM a2.1 a2.2.1.2.1 h.pl, bS, if_neg hd, if_pos rfl]
  show (f_X11_fails 0 (gF τ1 38) τ1).bind _ = _
  rw [show gF τ1 38 = _ from a2.2.1.2.1, show f_X11_fails 0 (nI s.1) τ1 = _ from b1, bS, nar0]
set_option maxHeartbeats 200000 in
theorem what7 (hc : CnM τ0) {ix : Int32} : ∀ (i m F : Nat) (τ : St), m + i = 5 → i < F → MJ T n k τ0 τ s.1 s cs j → match fnd (fun w => wdB T n s.1 (wl_ (5 + w))) i m with
    | none => ∃ τ', f_X11_whatFollows_7 ix F (nI m) τ = f_X11_whatFollows_45 τ' ∧ MJ T n k τ0 τ' s.1 s cs j
    | some w => ∃ τ' q', f_X11_whatFollows_7 ix F (nI m) τ = f_X11_whatFollows_28 ix (nI w) τ' ∧ MJ T n k τ0 τ' q' (stp T n s) cs j ∧ Fr [38] [] [] τ τ' := by
  intro i
  induction i with
  | zero =>
    intro m F τ hm hF h
    obtain ⟨F, rfl⟩ : ∃ z, F = z + 1 := ⟨F - 1, by omega⟩
    refine ⟨τ, ?_, h⟩
    unfold f_X11_whatFollows_7
    rw [if_pos (show (5 : Int32) ≤ nI m from nI_le (a := 5) (by omega) (by omega))]
  | succ i ih =>
    intro m F τ hm hF h
    obtain ⟨F, rfl⟩ : ∃ z, F = z + 1 := ⟨F - 1, by omega⟩
    have rl32 : rl tM τ 32 (nI m) = some (Int64.ofNat (wc_ (5 + m))) := by
      rw [rlM_32 (by omega), show τ.2.2 32 = _ from h.2.2.2.1.2.2 32 (by decide), hc.2 m (by omega)]
    obtain ⟨τ1, a1, a2, a3⟩ := h.wd (w := 5 + m) (by omega)
    rw [fnd_s]
    by_cases c : wdB T n s.1 (wl_ (5 + m)) = true
    · obtain ⟨τ2, q2, b1, b2, b3⟩ := a2.skip (wdB_lo c)
      rw [if_pos c]
      refine ⟨τ2, q2, ?_, b2, a3.tr b3⟩
      rw [f_X11_whatFollows_7, if_neg (show ¬ (5 : Int32) ≤ nI m from by rw [show (5 : Int32) = nI 5 from rfl, nI_leE (by omega) (by omega)]; omega), rl32, bS]
      unfold f_X11_takesWord
      rw [a1, bS, if_pos c, if_neg (show ¬ (1 : Int32) = 0 by decide)]
      show ((f_X11_skips τ1).bind _).bind _ = _
      rw [b1, bS, bS, if_neg (show ¬ (1 : Int32) = 0 by decide)]
    · rw [if_neg c]
      have st : f_X11_whatFollows_7 ix (F + 1) (nI m) τ = f_X11_whatFollows_7 ix F (nI (m + 1)) τ1 := by
        rw [f_X11_whatFollows_7, if_neg (show ¬ (5 : Int32) ≤ nI m from by rw [show (5 : Int32) = nI 5 from rfl, nI_leE (by omega) (by omega)]; omega), rl32, bS]
        unfold f_X11_takesWord
        rw [a1, bS, if_neg c, if_pos rfl, bS, if_pos rfl, bndE, show nI m + 1 = nI (m + 1) from nI_add _ 1]
      have := ih (m + 1) F τ1 (by omega) (by omega) a2
      rw [← st] at this
      cases g : fnd (fun w => wdB T n s.1 (wl_ (5 + w))) i (m + 1) with
      | none => rw [g] at this; exact this
      | some w =>
        rw [g] at this
        obtain ⟨τ2, q2, b1, b2, b3⟩ := this
        exact ⟨τ2, q2, b1, b2, a3.tr b3⟩
set_option maxHeartbeats 200000 in
theorem m81_lim {x3 x4 x5 x6 : Int32} (h : MJ T n k τ0 τ s.1 s cs cs.length) (hl : cs.length = 12) : ∃ τ', f_X11_clause_81 x1 (nI s.1) x3 x4 x5 x6 τ = some (0, τ') ∧ MFK k τ0 τ' (1 + 8 * s.1 + 4) := by
  have hk := h.1.2.2.2.1.2.1
  obtain ⟨τ1, a1, a2⟩ := h.1.fail 4 s.1
  refine ⟨τ1, ?_, h.flt a2⟩
  unfold f_X11_clause_81
  rw [show gF τ 25 = _ from h.1.2.2.1.2.2.2.2.2, rdM_21 (by omega), bS, h.2.1, hl, if_pos (show nI 12 = 12 from rfl), show f_X11_fails 4 (nI s.1) τ = _ from a1, bS, nar0]
set_option maxHeartbeats 200000 in
theorem m81 {x3 x4 x5 x6 : Int32} (h : MJ T n k τ0 τ s.1 s cs cs.length) (hl : cs.length < 12) (hw : s.1 < n ∧ isLo (T s.1) = true) : ∃ τ' q', f_X11_clause_81 x1 (nI s.1) x3 x4 x5 x6 τ = f_X11_clause_163 x1 x3 x4 x5 x6 (nI (12 * k + cs.length)) (nI (12 * k + cs.length)) (if x3 = 0 then (if x4 = 0 then 7 else 1) else 0) τ' ∧ MJ T n k τ0 τ' q' (stp T n s) cs (cs.length + 1) := by
  have hk := h.1.2.2.2.1.2.1
  have f1 : Fr [] [21, 22, 23, 24, 25, 26, 27] [] τ (sA τ 21 k (nI (cs.length + 1))) := Fr.rf.wA (by decide)
  have l1 : ∀ N, LoM N τ (sA τ 21 k (nI (cs.length + 1))) := fun N i hi => ⟨rfl, rfl, rfl, rfl, rfl, rfl⟩
  have h1 : MJ T n k τ0 (sA τ 21 k (nI (cs.length + 1))) s.1 s cs (cs.length + 1) := ⟨h.1.far f1, upd_at _ _ _, fun c hc => (h.2.2.1 c hc).lo (l1 (12 * k + c + 1)) (by omega), h.2.2.2.far f1 (fun i hi => upd_ne _ _ (by omega)) (l1 (12 * k)) (Nat.le_refl _)⟩
  obtain ⟨τ2, q2, b1, b2, b3⟩ := h1.skip hw
  refine ⟨τ2, q2, ?_, b2⟩
  have e25 : gF τ 25 = nI k := h.1.2.2.1.2.2.2.2.2
  unfold f_X11_clause_81
  rw [e25, rdM_21 (by omega), bS, h.2.1, if_neg (show ¬ nI cs.length = 12 from by rw [show (12 : Int32) = nI 12 from rfl, nI_eqE (by omega) (by omega)]; omega), bS, bndE, bndE, rdM_21 (by omega), bS, h.2.1, show (12 : Int32) * nI k + nI cs.length = nI (12 * k + cs.length) from ixc 12 _ _, show nI cs.length + 1 = nI (cs.length + 1) from nI_add _ 1, wrM_21 (by omega), bS, b1, bS]
  by_cases c3 : x3 = 0
  · rw [if_pos c3, if_pos c3]
    by_cases c4 : x4 = 0
    · rw [if_pos c4, if_pos c4]
    · rw [if_neg c4, if_neg c4]
  · rw [if_neg c3, if_neg c3]
set_option maxHeartbeats 200000 in
theorem m163 {x3 x4 x5 x6 : Int32} {t : Nat} (h : MJ T n k τ0 τ q s cs (cs.length + 1)) (hl : cs.length < 12) : ∃ τ', MJ T n k τ0 τ' q s cs (cs.length + 1) ∧ (τ'.2.1 22 (12 * k + cs.length) = nI t ∧ τ'.2.1 23 (12 * k + cs.length) = (if x5 = 0 then 0 else 1) ∧ τ'.2.1 27 (12 * k + cs.length) = nI 0 ∧ τ'.2.1 24 (12 * k + cs.length) = nI s.2.2.length) ∧ f_X11_clause_163 x1 x3 x4 x5 x6 (nI (12 * k + cs.length)) (nI (12 * k + cs.length)) (nI t) τ = if x3 = 0 then (if x4 = 0 then (if x5 = 0 then (if x6 = 0 then ((f_X11_see τ').bind fun u94 => bnd (gF u94.2 38 : Int32) fun v95 => (f_X11_number u94.2).bind fun u96 => if u96.1 = 0 then some (0, u96.2) else (if (gF u96.2 25) ≤ (gF u96.2 40) then f_X11_clause_283 v95 u96.2 else ((rd tM u96.2 19 (gF u96.2 40)).bind fun v97 => if v97 = x1 then ((wr tM u96.2 23 (nI (12 * k + cs.length)) (gF u96.2 40)).bind fun σ98 => f_X11_clause_302 (nI (12 * k + cs.length)) σ98) else f_X11_clause_283 v95 u96.2))) else f_X11_clause_228 (nI (12 * k + cs.length)) τ') else f_X11_clause_228 (nI (12 * k + cs.length)) τ') else f_X11_clause_209 (nI (12 * k + cs.length)) τ') else f_X11_clause_209 (nI (12 * k + cs.length)) τ' := by
  have hk := h.1.2.2.2.1.2.1
  have e5 : τ.1 35 = nI s.2.2.length := h.1.2.2.1.2.2.2.2.1
  have f1 : Fr [] [22, 23, 24, 25, 26, 27] [] τ (sA (sA (sA (sA τ 22 (12 * k + cs.length) (nI t)) 23 (12 * k + cs.length) (if x5 = 0 then 0 else 1)) 27 (12 * k + cs.length) 0) 24 (12 * k + cs.length) (nI s.2.2.length)) := (((Fr.rf.wA (by decide)).wA (by decide)).wA (by decide)).wA (by decide)
  refine ⟨sA (sA (sA (sA τ 22 (12 * k + cs.length) (nI t)) 23 (12 * k + cs.length) (if x5 = 0 then 0 else 1)) 27 (12 * k + cs.length) 0) 24 (12 * k + cs.length) (nI s.2.2.length), h.far f1 (fun i hi => ⟨upd_ne _ _ (by omega), upd_ne _ _ (by omega), upd_ne _ _ (by omega), rfl, rfl, upd_ne _ _ (by omega)⟩), ⟨upd_at _ _ _, upd_at _ _ _, upd_at _ _ _, upd_at _ _ _⟩, ?_⟩
  unfold f_X11_clause_163
  rw [wrM_22 (by omega), bS, bndE, wrM_23 (by omega), bS, wrM_27 (by omega), bS, show gF (sA (sA (sA τ 22 (12 * k + cs.length) (nI t)) 23 (12 * k + cs.length) (if x5 = 0 then 0 else 1)) 27 (12 * k + cs.length) 0) 35 = _ from e5, wrM_24 (by omega), bS]
set_option maxHeartbeats 200000 in
theorem m209 (hc : CnM τ0) (hT : ∀ i, T i < 256) (h : MJ T n k τ0 τ q s cs (cs.length + 1)) (hl : cs.length < 12) (g : GdR n s) {t : Nat} (ht : t = 5 ∨ t = 6) {a : Nat} (r1 : τ.2.1 22 (12 * k + cs.length) = nI (thM t)) (r2 : τ.2.1 23 (12 * k + cs.length) = 0) (r4 : τ.2.1 24 (12 * k + cs.length) = nI a) : RM T n k τ0 (f_X11_clause_209 (nI (12 * k + cs.length)) τ) (bnC (AG T n 120 4 0 s) (fun s1 => aCond T n cs t 0 a s1)) := by
  have sr := sumAll (hc.mv h.2.2.2) hT (f := 120) (d := 0) (W := []) (by omega) (by omega) g (Nat.zero_le _) h.1
  unfold f_X11_clause_209
  cases er : AG T n 120 4 0 s with
  | inl fl =>
    rw [er] at sr
    obtain ⟨τb, x1, x2⟩ := sr
    exact ⟨τb, by rw [x1, bS, if_pos rfl], h.flt x2⟩
  | inr s1 =>
    rw [er] at sr
    obtain ⟨τb, qb, x1, x2⟩ := sr
    have fb := x2.2.2.2.2.2.2.1
    have o := AG_ok (n := n) hT 120 4 0 s s1 (by omega) (by omega) (by omega) g.1 g.2.2 er
    rw [x1, bS, if_neg (show ¬ (1 : Int32) = 0 by decide)]
    exact m302 hc hT (h.mv x2) hl (o.gd g) (t := t) (a := a) (y := 0) (by omega) (by rw [fb.2.1 22 (by decide)]; exact r1) (by rw [fb.2.1 23 (by decide)]; exact r2) (by rw [fb.2.1 24 (by decide)]; exact r4)
set_option maxHeartbeats 200000 in
theorem m228 (hc : CnM τ0) (hT : ∀ i, T i < 256) (h : MJ T n k τ0 τ q s cs (cs.length + 1)) (hl : cs.length < 12) (g : GdR n s) {y : Int32} {a : Nat} (r2 : τ.2.1 23 (12 * k + cs.length) = y) (r4 : τ.2.1 24 (12 * k + cs.length) = nI a) : RM T n k τ0 (f_X11_clause_228 (nI (12 * k + cs.length)) τ) (match whn T n s.1 with
    | none => .inl (1 + 8 * s.1 + 0)
    | some w => aCond T n cs w y a (stp T n s)) := by
  have hk := h.1.2.2.2.1.2.1
  have nb := nx_b (T := T) (n := n) g.1
  have gs1 : GdR n (stp T n s) := ⟨nb.1, Nat.le_trans g.2.1 nb.2.1, g.2.2⟩
  obtain ⟨τ1, a1, a2, a3⟩ := h.see
  have w7 := what7 hc (ix := nI (12 * k + cs.length)) 5 0 FU τ1 (by omega) (by unfold FU; omega) a2
  have st : f_X11_whatFollows (nI (12 * k + cs.length)) τ = f_X11_whatFollows_7 (nI (12 * k + cs.length)) FU (nI 0) τ1 := by
    unfold f_X11_whatFollows
    rw [a1, bS]; rfl
  unfold f_X11_clause_228 whn
  rw [st]
  cases gq : fnd (fun w => wdB T n s.1 (wl_ (5 + w))) 5 0 with
  | none =>
    rw [gq] at w7
    obtain ⟨τ2, b1, b2⟩ := w7
    obtain ⟨τ3, d1, d2⟩ := b2.1.fail 0 s.1
    refine ⟨τ3, ?_, b2.flt d2⟩
    rw [b1]
    unfold f_X11_whatFollows_45
    rw [show gF τ2 38 = _ from b2.1.2.1.2.1, show f_X11_fails 0 (nI s.1) τ2 = _ from d1, bS, nar0, bS, if_pos rfl]
  | some w =>
    rw [gq] at w7
    obtain ⟨τ2, q2, b1, b2, b3⟩ := w7
    obtain ⟨-, w2, w3⟩ := fnd_lt gq
    have ff := a3.tr b3
    have f1 : Fr [] [22, 23, 24, 25, 26, 27] [] τ2 (sA τ2 22 (12 * k + cs.length) (nI (2 + w))) := Fr.rf.wA (by decide)
    have h2 : MJ T n k τ0 (sA τ2 22 (12 * k + cs.length) (nI (2 + w))) q2 (stp T n s) cs (cs.length + 1) := b2.far f1 (fun i hi => ⟨upd_ne _ _ (by omega), rfl, rfl, rfl, rfl, rfl⟩)
    rw [b1]
    unfold f_X11_whatFollows_28
    rw [show (2 : Int32) + nI w = nI (2 + w) from nI_add 2 _, wrM_22 (by omega), bS, bS, if_neg (show ¬ (1 : Int32) = 0 by decide)]
    refine m302 hc hT h2 hl gs1 (t := w) (a := a) (y := y) (by omega) ?_ ?_ ?_
    · rw [show thM w = 2 + w from by unfold thM; rw [if_pos (by omega)]; omega]; exact upd_at _ _ _
    · show τ2.2.1 23 _ = _
      rw [ff.2.1 23 (by decide)]; exact r2
    · show τ2.2.1 24 _ = _
      rw [ff.2.1 24 (by decide)]; exact r4
set_option maxHeartbeats 200000 in
theorem mstrk (h : MJ T n k τ0 τ q s cs (cs.length + 1)) (hl : cs.length < 12) (g : GdR n s) (hT : ∀ i, T i < 256) (r1 : τ.2.1 22 (12 * k + cs.length) = nI 7) (r3 : τ.2.1 27 (12 * k + cs.length) = nI 0) (r4 : τ.2.1 24 (12 * k + cs.length) = nI s.2.2.length) : RM T n k τ0 ((f_X11_see τ).bind fun u94 => bnd (gF u94.2 38 : Int32) fun v95 => (f_X11_number u94.2).bind fun u96 => if u96.1 = 0 then some (0, u96.2) else (if (gF u96.2 25) ≤ (gF u96.2 40) then f_X11_clause_283 v95 u96.2 else ((rd tM u96.2 19 (gF u96.2 40)).bind fun v97 => if v97 = x1 then ((wr tM u96.2 23 (nI (12 * k + cs.length)) (gF u96.2 40)).bind fun σ98 => f_X11_clause_302 (nI (12 * k + cs.length)) σ98) else f_X11_clause_283 v95 u96.2))) (if s.1 < n ∧ isDg (T s.1) = true then (if tkE T n s.1 - s.1 ≤ 5 ∧ ownM k τ0 x1 (nvl T s.1 (tkE T n s.1 - s.1)) = true then .inr (stp T n s, cs ++ [(7, nI (nvl T s.1 (tkE T n s.1 - s.1)), 0, s.2.2.length, s.2.2.length, s.2.2.length)]) else .inl (1 + 8 * s.1 + 1)) else .inl (1 + 8 * s.1 + 0)) := by
  have hk := h.1.2.2.2.1.2.1
  obtain ⟨τ1, a1, a2, a3⟩ := h.see
  rw [a1, bS]
  show RM T n k τ0 (bnd (gF τ1 38 : Int32) fun v95 => (f_X11_number τ1).bind fun u96 => if u96.1 = 0 then some (0, u96.2) else (if (gF u96.2 25) ≤ (gF u96.2 40) then f_X11_clause_283 v95 u96.2 else ((rd tM u96.2 19 (gF u96.2 40)).bind fun v97 => if v97 = x1 then ((wr tM u96.2 23 (nI (12 * k + cs.length)) (gF u96.2 40)).bind fun σ98 => f_X11_clause_302 (nI (12 * k + cs.length)) σ98) else f_X11_clause_283 v95 u96.2))) _
  rw [bndE, show gF τ1 38 = _ from a2.1.2.1.2.1]
  by_cases c1 : s.1 < n ∧ isDg (T s.1) = true
  · have nm := a2.1.num c1
    rw [if_pos c1]
    by_cases c2 : tkE T n s.1 - s.1 ≤ 5
    · rw [if_pos c2] at nm
      obtain ⟨τ2, q2, b1, b2, b3⟩ := nm
      have h2 := a2.mv b2
      have fb := b2.2.2.2.2.2.2.1
      have NL := nvl_lt hT s.1 (tkE T n s.1 - s.1)
      have e19 : τ2.2.1 19 = τ0.2.1 19 := h2.2.2.2.1.2.1 19 (by decide)
      rw [b1, bS, if_neg (show ¬ (1 : Int32) = 0 by decide)]
      show RM T n k τ0 (if (gF τ2 25) ≤ (gF τ2 40) then f_X11_clause_283 (nI s.1) τ2 else ((rd tM τ2 19 (gF τ2 40)).bind fun v97 => if v97 = x1 then ((wr tM τ2 23 (nI (12 * k + cs.length)) (gF τ2 40)).bind fun σ98 => f_X11_clause_302 (nI (12 * k + cs.length)) σ98) else f_X11_clause_283 (nI s.1) τ2)) _
      rw [show gF τ2 25 = _ from h2.1.2.2.1.2.2.2.2.2, show gF τ2 40 = _ from b3]
      obtain ⟨τf, w1, w2⟩ := h2.1.fail 1 s.1
      have e283 : f_X11_clause_283 (nI s.1) τ2 = some (0, τf) := by
        unfold f_X11_clause_283
        rw [show f_X11_fails 1 (nI s.1) τ2 = _ from w1, bS, nar0]
      by_cases c3 : nvl T s.1 (tkE T n s.1 - s.1) < k
      · rw [if_neg (nI_ge c3 (by omega)), rdM_19 (by omega), bS, e19]
        by_cases c4 : τ0.2.1 19 (nvl T s.1 (tkE T n s.1 - s.1)) = x1
        · rw [if_pos c4, if_pos ⟨c2, decide_eq_true ⟨c3, c4⟩⟩, wrM_23 (by omega), bS]
          have f1 : Fr [] [22, 23, 24, 25, 26, 27] [] τ2 (sA (sA τ2 23 (12 * k + cs.length) (nI (nvl T s.1 (tkE T n s.1 - s.1)))) 25 (12 * k + cs.length) (nI s.2.2.length)) := (Fr.rf.wA (by decide)).wA (by decide)
          have h3 : MJ T n k τ0 (sA (sA τ2 23 (12 * k + cs.length) (nI (nvl T s.1 (tkE T n s.1 - s.1)))) 25 (12 * k + cs.length) (nI s.2.2.length)) q2 (stp T n s) cs (cs.length + 1) := h2.far f1 (fun i hi => ⟨rfl, upd_ne _ _ (by omega), rfl, upd_ne _ _ (by omega), rfl, rfl⟩)
          have e22 : τ2.2.1 22 (12 * k + cs.length) = nI 7 := by rw [fb.2.1 22 (by decide), a3.2.1 22 (by decide)]; exact r1
          have e27 : τ2.2.1 27 (12 * k + cs.length) = nI 0 := by rw [fb.2.1 27 (by decide), a3.2.1 27 (by decide)]; exact r3
          have e24 : τ2.2.1 24 (12 * k + cs.length) = nI s.2.2.length := by rw [fb.2.1 24 (by decide), a3.2.1 24 (by decide)]; exact r4
          have e35 : τ2.1 35 = nI s.2.2.length := h2.1.2.2.1.2.2.2.2.1
          obtain ⟨τc, qc, y1, y2⟩ := m380 h3 hl (t := 7) (z := 0) (a := s.2.2.length) (b := s.2.2.length) (y := nI (nvl T s.1 (tkE T n s.1 - s.1))) e22 (upd_at _ _ _) e27 e24 (upd_at _ _ _)
          refine ⟨τc, qc, ?_, y2⟩
          unfold f_X11_clause_302 f_X11_clause_361
          rw [show gF (sA τ2 23 (12 * k + cs.length) (nI (nvl T s.1 (tkE T n s.1 - s.1)))) 35 = _ from e35, wrM_25 (by omega), bS, rdM_22 (by omega), bS, show (sA (sA τ2 23 (12 * k + cs.length) (nI (nvl T s.1 (tkE T n s.1 - s.1)))) 25 (12 * k + cs.length) (nI s.2.2.length)).2.1 22 (12 * k + cs.length) = _ from e22, if_pos (show nI 7 = 7 from rfl), rdM_27 (by omega), bS, show (sA (sA τ2 23 (12 * k + cs.length) (nI (nvl T s.1 (tkE T n s.1 - s.1)))) 25 (12 * k + cs.length) (nI s.2.2.length)).2.1 27 (12 * k + cs.length) = _ from e27, if_pos (by decide)]
          exact y1
        · rw [if_neg c4, if_neg (show ¬ (tkE T n s.1 - s.1 ≤ 5 ∧ ownM k τ0 x1 (nvl T s.1 (tkE T n s.1 - s.1)) = true) from fun z => c4 (of_decide_eq_true z.2).2), e283]
          exact ⟨τf, rfl, h2.flt w2⟩
      · rw [if_pos (nI_le (by omega) (by omega)), if_neg (show ¬ (tkE T n s.1 - s.1 ≤ 5 ∧ ownM k τ0 x1 (nvl T s.1 (tkE T n s.1 - s.1)) = true) from fun z => c3 (of_decide_eq_true z.2).1), e283]
        exact ⟨τf, rfl, h2.flt w2⟩
    · rw [if_neg c2] at nm
      obtain ⟨τ2, b1, b2⟩ := nm
      rw [b1, bS, if_pos rfl, if_neg (fun z => c2 z.1)]
      exact ⟨τ2, rfl, a2.flt b2⟩
  · obtain ⟨τ2, b1, b2⟩ := a2.1.numN c1
    rw [b1, bS, if_pos rfl, if_neg c1]
    exact ⟨τ2, rfl, a2.flt b2⟩
end RD
