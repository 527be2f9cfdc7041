/-! the whole text, both -/
section TX2
variable {T : Nat → Nat} {n k q : Nat} {τ0 τ : St} {s : PS} {cs : List Cl} {x1 : Int32}
set_option maxHeartbeats 200000 in
theorem g81 {x3 x4 x5 x6 : Int32} {t : Nat} (h : MJ T n k τ0 τ s.1 s cs cs.length) (hl : cs.length < 12) (hw : s.1 < n ∧ isLo (T s.1) = true) (hy : (if x3 = 0 then (if x4 = 0 then 7 else 1) else 0 : Int32) = nI t) : ∃ τ' q', MJ T n k τ0 τ' q' (stp T n s) cs (cs.length + 1) ∧ (τ'.2.1 22 (12 * k + cs.length) = nI t ∧ τ'.2.1 23 (12 * k + cs.length) = (if x5 = 0 then 0 else 1) ∧ τ'.2.1 27 (12 * k + cs.length) = nI 0 ∧ τ'.2.1 24 (12 * k + cs.length) = nI s.2.2.length) ∧ f_X11_clause_81 x1 (nI s.1) x3 x4 x5 x6 τ = if x3 = 0 then (if x4 = 0 then (if x5 = 0 then (if x6 = 0 then ((f_X11_see τ').bind fun u94 => bnd (gF u94.2 38 : Int32) fun v95 => (f_X11_number u94.2).bind fun u96 => if u96.1 = 0 then some (0, u96.2) else (if (gF u96.2 25) ≤ (gF u96.2 40) then f_X11_clause_283 v95 u96.2 else ((rd tM u96.2 19 (gF u96.2 40)).bind fun v97 => if v97 = x1 then ((wr tM u96.2 23 (nI (12 * k + cs.length)) (gF u96.2 40)).bind fun σ98 => f_X11_clause_302 (nI (12 * k + cs.length)) σ98) else f_X11_clause_283 v95 u96.2))) else f_X11_clause_228 (nI (12 * k + cs.length)) τ') else f_X11_clause_228 (nI (12 * k + cs.length)) τ') else f_X11_clause_209 (nI (12 * k + cs.length)) τ') else f_X11_clause_209 (nI (12 * k + cs.length)) τ' := by
  obtain ⟨τ1, q1, a1, a2⟩ := m81 (x1 := x1) (x3 := x3) (x4 := x4) (x5 := x5) (x6 := x6) h hl hw
  obtain ⟨τ2, b1, b2, b3⟩ := m163 (x1 := x1) (x3 := x3) (x4 := x4) (x5 := x5) (x6 := x6) (t := t) a2 hl
  exact ⟨τ2, q1, b1, b2, by rw [a1, hy, b3]⟩
set_option maxHeartbeats 200000 in
theorem clauseM (hc : CnM τ0) (hT : ∀ i, T i < 256) (h : MJ T n k τ0 τ q s cs cs.length) (hl : cs.length ≤ 12) (g : GdR n s) : RM T n k τ0 (f_X11_clause x1 τ) (aClause T n (ownM k τ0 x1) (s, cs)) := by
  have nb := nx_b (T := T) (n := n) g.1
  have gs1 : GdR n (stp T n s) := ⟨nb.1, Nat.le_trans g.2.1 nb.2.1, g.2.2⟩
  obtain ⟨τ1, a1, a2, -⟩ := h.see
  obtain ⟨τ2, b1, b2, -⟩ := a2.wd (w := 0) (by decide)
  obtain ⟨τ3, d1, d2, -⟩ := b2.wd (w := 1) (by decide)
  obtain ⟨τ4, e1, e2, -⟩ := d2.wd (w := 3) (by decide)
  obtain ⟨τ5, f1, f2, -⟩ := e2.wd (w := 4) (by decide)
  obtain ⟨τ6, y1, y2, -⟩ := f2.wd (w := 2) (by decide)
  have st : f_X11_clause x1 τ = if (if wdB T n s.1 (wl_ 0) = true then 1 else 0 : Int32) = 0 then (if (if wdB T n s.1 (wl_ 1) = true then 1 else 0 : Int32) = 0 then (if (if wdB T n s.1 (wl_ 3) = true then 1 else 0 : Int32) = 0 then (if (if wdB T n s.1 (wl_ 4) = true then 1 else 0 : Int32) = 0 then (if (if wdB T n s.1 (wl_ 2) = true then 1 else 0 : Int32) = 0 then ((f_X11_fails 0 (nI s.1) τ6).bind fun u80 => some (vp_nar .boolean u80.1, u80.2)) else f_X11_clause_81 x1 (nI s.1) (if wdB T n s.1 (wl_ 0) = true then 1 else 0) (if wdB T n s.1 (wl_ 1) = true then 1 else 0) (if wdB T n s.1 (wl_ 3) = true then 1 else 0) (if wdB T n s.1 (wl_ 4) = true then 1 else 0) τ6) else f_X11_clause_81 x1 (nI s.1) (if wdB T n s.1 (wl_ 0) = true then 1 else 0) (if wdB T n s.1 (wl_ 1) = true then 1 else 0) (if wdB T n s.1 (wl_ 3) = true then 1 else 0) (if wdB T n s.1 (wl_ 4) = true then 1 else 0) τ5) else f_X11_clause_81 x1 (nI s.1) (if wdB T n s.1 (wl_ 0) = true then 1 else 0) (if wdB T n s.1 (wl_ 1) = true then 1 else 0) (if wdB T n s.1 (wl_ 3) = true then 1 else 0) (if wdB T n s.1 (wl_ 4) = true then 1 else 0) τ5) else f_X11_clause_81 x1 (nI s.1) (if wdB T n s.1 (wl_ 0) = true then 1 else 0) (if wdB T n s.1 (wl_ 1) = true then 1 else 0) (if wdB T n s.1 (wl_ 3) = true then 1 else 0) (if wdB T n s.1 (wl_ 4) = true then 1 else 0) τ5) else f_X11_clause_81 x1 (nI s.1) (if wdB T n s.1 (wl_ 0) = true then 1 else 0) (if wdB T n s.1 (wl_ 1) = true then 1 else 0) (if wdB T n s.1 (wl_ 3) = true then 1 else 0) (if wdB T n s.1 (wl_ 4) = true then 1 else 0) τ5 := by
    unfold f_X11_clause
    rw [a1, bS]
    show bnd (gF τ1 38) (fun v74 => (f_X11_isWord 491327153000 τ1).bind _) = _
    rw [bndE, show gF τ1 38 = _ from a2.1.2.1.2.1, show f_X11_isWord 491327153000 τ1 = _ from b1, bS]
    show (f_X11_isWord 1835365224 τ2).bind _ = _
    rw [show f_X11_isWord 1835365224 τ2 = _ from d1, bS]
    show (f_X11_isWord 7168377 τ3).bind _ = _
    rw [show f_X11_isWord 7168377 τ3 = _ from e1, bS]
    show (f_X11_isWord 7237492 τ4).bind _ = _
    rw [show f_X11_isWord 7237492 τ4 = _ from f1, bS, show f_X11_isWord 126943972911973 τ5 = _ from y1, bS]
  have ex : ∀ a b, wdB T n s.1 (wl_ a) = true → wl_ a ≠ wl_ b → ¬ wdB T n s.1 (wl_ b) = true := fun a b h1 h2 h3 => h2 (wd_ex h1 h3)
  have lim : ∀ (τa : St) (x3 x4 x5 x6 : Int32) (X : CT), MJ T n k τ0 τa s.1 s cs cs.length → (cs.length < 12 → RM T n k τ0 (f_X11_clause_81 x1 (nI s.1) x3 x4 x5 x6 τa) X) → RM T n k τ0 (f_X11_clause_81 x1 (nI s.1) x3 x4 x5 x6 τa) (if cs.length < 12 then X else .inl (1 + 8 * s.1 + 4)) := by
    intro τa x3 x4 x5 x6 X ha hX
    by_cases w : cs.length < 12
    · rw [if_pos w]; exact hX w
    · rw [if_neg w]; exact m81_lim ha (by omega)
  unfold aClause
  show RM T n k τ0 _ (if wdB T n s.1 (wl_ 0) = true then _ else _)
  by_cases c0 : wdB T n s.1 (wl_ 0) = true
  · have n3 := ex 0 3 c0 (by decide)
    rw [if_pos c0]
    simp only [if_pos c0, if_neg n3, if_neg (show ¬ (1 : Int32) = 0 by decide)] at st
    rw [st]
    refine lim τ5 _ _ _ _ _ f2 (fun w => ?_)
    obtain ⟨τa, qa, z1, ⟨r1, r2, r3, r4⟩, z3⟩ := g81 (x1 := x1) (x3 := 1) (x4 := if wdB T n s.1 (wl_ 1) = true then 1 else 0) (x5 := 0) (x6 := if wdB T n s.1 (wl_ 4) = true then 1 else 0) (t := 0) f2 w (wdB_lo c0) (by rw [if_neg (by decide)]; rfl)
    rw [z3, if_neg (by decide)]
    exact m209 hc hT z1 w gs1 (t := 5) (Or.inl rfl) (a := s.2.2.length) r1 (r2.trans (if_pos rfl)) r4
  · rw [if_neg c0]
    show RM T n k τ0 _ (if wdB T n s.1 (wl_ 1) = true then _ else _)
    by_cases c1 : wdB T n s.1 (wl_ 1) = true
    · have n3 := ex 1 3 c1 (by decide)
      rw [if_pos c1]
      simp only [if_neg c0, if_pos c1, if_neg n3, if_neg (show ¬ (1 : Int32) = 0 by decide), if_pos (show (0 : Int32) = 0 from rfl)] at st
      rw [st]
      refine lim τ5 _ _ _ _ _ f2 (fun w => ?_)
      obtain ⟨τa, qa, z1, ⟨r1, r2, r3, r4⟩, z3⟩ := g81 (x1 := x1) (x3 := 0) (x4 := 1) (x5 := 0) (x6 := if wdB T n s.1 (wl_ 4) = true then 1 else 0) (t := 1) f2 w (wdB_lo c1) (by rw [if_pos rfl, if_neg (by decide)]; rfl)
      rw [z3, if_pos rfl, if_neg (by decide)]
      exact m209 hc hT z1 w gs1 (t := 6) (Or.inr rfl) (a := s.2.2.length) r1 (r2.trans (if_pos rfl)) r4
    · rw [if_neg c1]
      show RM T n k τ0 _ (if wdB T n s.1 (wl_ 2) = true then _ else _)
      by_cases c2 : wdB T n s.1 (wl_ 2) = true
      · have n3 := ex 2 3 c2 (by decide)
        have n4 := ex 2 4 c2 (by decide)
        rw [if_pos c2]
        simp only [if_neg c0, if_neg c1, if_pos c2, if_neg n3, if_neg n4, if_neg (show ¬ (1 : Int32) = 0 by decide), if_pos (show (0 : Int32) = 0 from rfl)] at st
        rw [st]
        refine lim τ6 _ _ _ _ _ y2 (fun w => ?_)
        obtain ⟨τa, qa, z1, ⟨r1, r2, r3, r4⟩, z3⟩ := g81 (x1 := x1) (x3 := 0) (x4 := 0) (x5 := 0) (x6 := 0) (t := 7) y2 w (wdB_lo c2) (by rw [if_pos rfl, if_pos rfl]; rfl)
        rw [z3, if_pos rfl, if_pos rfl, if_pos rfl, if_pos rfl]
        exact mstrk z1 w gs1 hT r1 r3 r4
      · rw [if_neg c2]
        show RM T n k τ0 _ (if wdB T n s.1 (wl_ 3) = true then _ else _)
        by_cases c3 : wdB T n s.1 (wl_ 3) = true
        · rw [if_pos c3]
          simp only [if_neg c0, if_neg c1, if_pos c3, if_neg (show ¬ (1 : Int32) = 0 by decide), if_pos (show (0 : Int32) = 0 from rfl)] at st
          rw [st]
          refine lim τ5 _ _ _ _ _ f2 (fun w => ?_)
          obtain ⟨τa, qa, z1, ⟨r1, r2, r3, r4⟩, z3⟩ := g81 (x1 := x1) (x3 := 0) (x4 := 0) (x5 := 1) (x6 := if wdB T n s.1 (wl_ 4) = true then 1 else 0) (t := 7) f2 w (wdB_lo c3) (by rw [if_pos rfl, if_pos rfl]; rfl)
          rw [z3, if_pos rfl, if_pos rfl, if_neg (by decide)]
          exact m228 hc hT z1 w gs1 (y := 1) (a := s.2.2.length) (r2.trans (if_neg (by decide))) r4
        · rw [if_neg c3]
          show RM T n k τ0 _ (if wdB T n s.1 (wl_ 4) = true then _ else _)
          by_cases c4 : wdB T n s.1 (wl_ 4) = true
          · rw [if_pos c4]
            simp only [if_neg c0, if_neg c1, if_neg c3, if_pos c4, if_neg (show ¬ (1 : Int32) = 0 by decide), if_pos (show (0 : Int32) = 0 from rfl)] at st
            rw [st]
            refine lim τ5 _ _ _ _ _ f2 (fun w => ?_)
            obtain ⟨τa, qa, z1, ⟨r1, r2, r3, r4⟩, z3⟩ := g81 (x1 := x1) (x3 := 0) (x4 := 0) (x5 := 0) (x6 := 1) (t := 7) f2 w (wdB_lo c4) (by rw [if_pos rfl, if_pos rfl]; rfl)
            rw [z3, if_pos rfl, if_pos rfl, if_pos rfl, if_neg (by decide)]
            exact m228 hc hT z1 w gs1 (y := 0) (a := s.2.2.length) (r2.trans (if_pos rfl)) r4
          · rw [if_neg c4]
            simp only [if_neg c0, if_neg c1, if_neg c2, if_neg c3, if_neg c4, if_pos (show (0 : Int32) = 0 from rfl)] at st
            obtain ⟨τ7, w1, w2⟩ := y2.1.fail 0 s.1
            rw [st, show f_X11_fails 0 (nI s.1) τ6 = _ from w1, bS, nar0]
            exact ⟨τ7, rfl, y2.flt w2⟩
set_option maxHeartbeats 200000 in
theorem byI_end {p : Nat} (hT : ∀ i, T i < 256) : (byI T n p = -1) = ¬ p < n := by
  have := hT p
  unfold byI
  by_cases c : p < n
  · rw [if_pos c]; exact propext ⟨fun z => absurd z (neg_nI (by omega) (by decide)), fun z => absurd c z⟩
  · rw [if_neg c]; exact propext ⟨fun _ => c, fun _ => rfl⟩
set_option maxHeartbeats 200000 in
theorem textM (hc : CnM τ0) (hT : ∀ i, T i < 256) : ∀ (kk F : Nat) (c : CS) (q : Nat) (τ : St), c.2.length + kk = 13 → kk + 1 < F → MJ T n k τ0 τ q c.1 c.2 c.2.length → TxI n (ownM k τ0 x1) c → RM T n k τ0 (f_X11_text_2 x1 F 1 τ) (aText T n (ownM k τ0 x1) kk c) := by
  intro kk
  induction kk with
  | zero => intro F c q τ hk hF h i; have := i.2.1; omega
  | succ kk ih =>
    intro F c q τ hk hF h i
    obtain ⟨F, rfl⟩ : ∃ z, F = z + 1 := ⟨F - 1, by omega⟩
    have cm := clauseM (x1 := x1) hc hT h i.2.1 i.1
    have st : f_X11_text_2 x1 (F + 1) 1 τ = (f_X11_clause x1 τ).bind fun u11 => if u11.1 = 0 then some (0, u11.2) else ((f_X11_see u11.2).bind fun u12 => bnd (if u12.1 = 59 then 1 else 0 : Int32) fun v13 => if v13 = 0 then f_X11_text_2 x1 F v13 u12.2 else (bnd (sF u12.2 38 ((gF u12.2 38) + 1)) fun σ14 => f_X11_text_2 x1 F v13 σ14)) := by
      rw [f_X11_text_2, if_neg (by decide)]
    rw [st]
    show RM T n k τ0 _ (match aClause T n (ownM k τ0 x1) c with
      | .inl f => .inl f
      | .inr c' => if sym T n c'.1.1 59 = true then aText T n (ownM k τ0 x1) kk (stp T n c'.1, c'.2) else if c'.1.1 < n then .inl (1 + 8 * c'.1.1 + 0) else .inr c')
    cases e : aClause T n (ownM k τ0 x1) c with
    | inl f =>
      rw [show aClause T n (ownM k τ0 x1) (c.1, c.2) = _ from e] at cm
      obtain ⟨τ1, r1, r2⟩ := cm
      exact ⟨τ1, by rw [r1, bS, if_pos rfl], r2⟩
    | inr c' =>
      rw [show aClause T n (ownM k τ0 x1) (c.1, c.2) = _ from e] at cm
      obtain ⟨i', il⟩ := i.step hT e
      obtain ⟨τ1, q1, r1, r2⟩ := cm
      obtain ⟨τ2, a1, a2, -⟩ := r2.see
      have i59 : (byI T n c'.1.1 = 59) = (sym T n c'.1.1 59 = true) := byI_sym (c := 59) (hT _) (by decide)
      rw [r1, bS, if_neg (show ¬ (1 : Int32) = 0 by decide)]
      show RM T n k τ0 ((f_X11_see τ1).bind _) (if sym T n c'.1.1 59 = true then aText T n (ownM k τ0 x1) kk (stp T n c'.1, c'.2) else if c'.1.1 < n then .inl (1 + 8 * c'.1.1 + 0) else .inr c')
      rw [a1, bS, bndE]
      by_cases c1 : sym T n c'.1.1 59 = true
      · have nb := nx_b (T := T) (n := n) i'.1.1
        rw [if_pos c1, if_pos (i59.mpr c1), if_neg (show ¬ (1 : Int32) = 0 by decide), bndE]
        exact ih F (stp T n c'.1, c'.2) (c'.1.1 + 1) _ (show c'.2.length + kk = 13 by omega) (by omega) (a2.mv (a2.1.go1 c1 (by decide))) ⟨⟨nb.1, Nat.le_trans i'.1.2.1 nb.2.1, i'.1.2.2⟩, i'.2.1, i'.2.2⟩
      · rw [if_neg c1, if_neg (fun z => c1 (i59.mp z)), if_pos rfl]
        obtain ⟨F, rfl⟩ : ∃ z, F = z + 1 := ⟨F - 1, by omega⟩
        obtain ⟨τ3, b1, b2, -⟩ := a2.see
        have st2 : f_X11_text_2 x1 (F + 1) 0 τ2 = if byI T n c'.1.1 = -1 then some (1, τ3) else ((f_X11_fails 0 (nI c'.1.1) τ3).bind fun u16 => if u16.1 = 0 then some (0, u16.2) else f_X11_text_68 u16.2) := by
          rw [f_X11_text_2, if_pos rfl]
          unfold f_X11_text_48
          rw [b1, bS]
          show (if byI T n c'.1.1 = -1 then _ else ((f_X11_fails 0 (gF τ3 38) τ3).bind _)) = _
          rw [show gF τ3 38 = _ from b2.1.2.1.2.1]; rfl
        show RM T n k τ0 (f_X11_text_2 x1 (F + 1) 0 τ2) _
        rw [st2]
        by_cases c2 : c'.1.1 < n
        · obtain ⟨τ4, d1, d2⟩ := b2.1.fail 0 c'.1.1
          rw [if_pos c2, if_neg (show ¬ byI T n c'.1.1 = -1 from by rw [byI_end hT]; exact not_not_intro c2), show f_X11_fails 0 (nI c'.1.1) τ3 = _ from d1, bS, if_pos rfl]
          exact ⟨τ4, rfl, b2.flt d2⟩
        · rw [if_neg c2, if_pos ((byI_end hT).mpr c2)]
          exact ⟨τ3, c'.1.1, rfl, b2⟩
set_option maxHeartbeats 200000 in
theorem tkK_end {p : Nat} (hT : ∀ i, T i < 256) : (tkK T n p = -1) = ¬ p < n := by
  have hTp := hT p
  unfold tkK
  by_cases c : p < n
  · rw [if_pos c]
    refine propext ⟨fun z => ?_, fun z => absurd c z⟩
    split at z
    · exact absurd z (by decide)
    · split at z
      · exact absurd z (by decide)
      · split at z
        · exact absurd z (neg_nI (by omega) (by decide))
        · exact absurd z (neg_nI (by omega) (by decide))
  · rw [if_neg c]; exact propext ⟨fun _ => c, fun _ => rfl⟩
set_option maxHeartbeats 200000 in
theorem CFK.r70 {K Ln f : Nat} {σ0 σ : St} (h : CFK T n K Ln k σ0 σ f) : f_X4_read_70 σ = some (nI f, σ) := by
  unfold f_X4_read_70
  rw [failC1 h.1.ne, bS, show gF σ 509 = nI f from h.1.2.1.2.2, ite_self]
def RT (T : Nat → Nat) (n K Ln k : Nat) (σ0 : St) (X : Option (Int32 × St)) (r : CT) : Prop := match r with
  | .inl f => (0 < f ∧ f < 10000) ∧ ∃ σ', X = some (nI f, σ') ∧ CFK T n K Ln k σ0 σ' f
  | .inr c => ∃ σ', X = some (0, σ') ∧ CK T n K Ln k σ0 σ' c.1 c.2
set_option maxHeartbeats 200000 in
theorem textC {K Ln : Nat} {σ0 : St} (hT : ∀ i, T i < 256) (hL : Ln < 9000) (hK : K + 400 ≤ Ln) {own : Nat → Bool} (hown : ∀ σ, σ.1 400 = σ0.1 400 → σ.2.1 32 = σ0.2.1 32 → ∀ N, N < 100000000 → f_X2_isOf (nI N) x1 σ = some (if own N = true then 1 else 0)) : ∀ (kk F : Nat) (c : CS) (σ : St), c.2.length + kk = 12 → kk < F → CK T n K Ln k σ0 σ c.1 c.2 → TxI n own c → RT T n K Ln k σ0 ((f_X4_readClause x1 σ).bind (f_X4_read_33 x1 F (nI c.2.length))) (aText T n own (kk + 1) c) := by
  intro kk
  induction kk with
  | zero =>
    intro F c σ hk hF h i
    obtain ⟨F, rfl⟩ : ∃ z, F = z + 1 := ⟨F - 1, by omega⟩
    obtain ⟨σ1, a1, a2⟩ := clauseC hT hL hK hown h i.2.1 i.1
    show RT T n K Ln k σ0 _ (match aClause T n own c with
      | .inl f => .inl f
      | .inr c' => if sym T n c'.1.1 59 = true then aText T n own 0 (stp T n c'.1, c'.2) else if c'.1.1 < n then .inl (1 + 8 * c'.1.1 + 0) else .inr c')
    cases e : aClause T n own c with
    | inl f =>
      rw [show aClause T n own (c.1, c.2) = _ from e] at a2
      have a2 : CFK T n K Ln k σ0 σ1 f := a2
      refine ⟨⟨a2.1.2.1.1, a2.1.2.1.2.1⟩, σ1, ?_, a2⟩
      rw [a1, bS, f_X4_read_33, if_pos (show (12 : Int32) ≤ nI c.2.length from nI_le (a := 12) (by omega) (by omega)), a2.r70]
    | inr c' =>
      have := (clause_ok hT i.1 e).1
      omega
  | succ kk ih =>
    intro F c σ hk hF h i
    obtain ⟨F, rfl⟩ : ∃ z, F = z + 1 := ⟨F - 1, by omega⟩
    obtain ⟨σ1, a1, a2⟩ := clauseC hT hL hK hown h i.2.1 i.1
    have n4 := h.1.1.1
    have hx : ¬ (12 : Int32) ≤ nI c.2.length := CK.lt12 (by omega)
    show RT T n K Ln k σ0 _ (match aClause T n own c with
      | .inl f => .inl f
      | .inr c' => if sym T n c'.1.1 59 = true then aText T n own (kk + 1) (stp T n c'.1, c'.2) else if c'.1.1 < n then .inl (1 + 8 * c'.1.1 + 0) else .inr c')
    cases e : aClause T n own c with
    | inl f =>
      rw [show aClause T n own (c.1, c.2) = _ from e] at a2
      have a2 : CFK T n K Ln k σ0 σ1 f := a2
      refine ⟨⟨a2.1.2.1.1, a2.1.2.1.2.1⟩, σ1, ?_, a2⟩
      rw [a1, bS, f_X4_read_33, if_neg hx, if_neg a2.1.ne, a2.r70]
    | inr c' =>
      rw [show aClause T n own (c.1, c.2) = _ from e] at a2
      have a2 : CK T n K Ln k σ0 σ1 c'.1 c'.2 := a2
      obtain ⟨i', il⟩ := i.step hT e
      have i59 : (gF σ1 504 = 59) = (sym T n c'.1.1 59 = true) := a2.1.sy (c := 59) (by decide)
      show RT T n K Ln k σ0 _ (if sym T n c'.1.1 59 = true then aText T n own (kk + 1) (stp T n c'.1, c'.2) else if c'.1.1 < n then .inl (1 + 8 * c'.1.1 + 0) else .inr c')
      rw [a1, bS, f_X4_read_33, if_neg hx, if_pos a2.1.ok]
      by_cases c1 : sym T n c'.1.1 59 = true
      · have nb := nx_b (T := T) (n := n) i'.1.1
        obtain ⟨σ2, b1, b2⟩ := a2.1.adv
        rw [if_pos c1, if_pos (i59.mpr c1), b1, bS]
        have := ih F (stp T n c'.1, c'.2) σ2 (show c'.2.length + kk = 12 by omega) (by omega) (a2.mv b2) ⟨⟨nb.1, Nat.le_trans i'.1.2.1 nb.2.1, i'.1.2.2⟩, i'.2.1, i'.2.2⟩
        rw [show nI c.2.length + 1 = nI c'.2.length from by rw [il]; exact nI_add _ 1]
        exact this
      · rw [if_neg c1, if_neg (fun z => c1 (i59.mp z))]
        have t1 : (gF σ1 504 = -1) = ¬ c'.1.1 < n := by rw [show gF σ1 504 = _ from a2.1.2.1.2.1]; exact tkK_end hT
        unfold f_X4_read_70
        by_cases c2 : c'.1.1 < n
        · obtain ⟨σ2, b1, b2⟩ := a2.1.fail (by have := i'.1.1; have := i'.1.2.1; omega) (k := 0) (by decide)
          rw [if_pos c2, if_neg (show ¬ gF σ1 504 = -1 from by rw [t1]; exact not_not_intro c2), show f_X4_fail 0 σ1 = _ from b1, bS, show gF σ2 509 = _ from b2.2.1.2.2]
          exact ⟨⟨b2.2.1.1, b2.2.1.2.1⟩, σ2, rfl, a2.flt i'.2.1 b2⟩
        · rw [if_neg c2, if_pos (t1.mpr c2), show gF σ1 509 = 0 from a2.1.ok]
          exact ⟨σ1, rfl, a2⟩
end TX2
