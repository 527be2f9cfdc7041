/-! the reference's sums keep to plain descent -/
def vO (c : Int32) : Int32 := if c = 2 then -15 else if c = 3 then -13 else if c = 4 then -14 else if c = 10 then -10 else if c = 11 then -11 else -12
def aft (x1 : Int32) (m F : Nat) (τ : St) : Option (Int32 × St) := (f_X11_isTop x1 2 τ).bind fun v => if v = 0 then f_X11_sum_36 x1 (f_X11_sum_5 x1 m) F τ else (f_X11_pops τ).bind fun τ1 => f_X11_sum_36 x1 (f_X11_sum_5 x1 m) F τ1
def RF (T : Nat → Nat) (n k : Nat) (τ0 : St) (X : Option (Int32 × St)) (r : PR) (P : PS → Option (Int32 × St) → Prop) : Prop := match r with
  | .inl f => ∃ τ', X = some (0, τ') ∧ MF T n k τ0 τ' f
  | .inr s' => P s' X
def PN (T : Nat → Nat) (n k : Nat) (τ0 τ : St) (q : Nat) (s : PS) (d : Nat) (l W : List Int32) : Prop := ∃ c0 : List Int32, MR T n k τ0 τ q (s.1, s.2.1, c0) d (l ++ W) ∧ s.2.2 = c0 ++ l.map vO
def QV (T : Nat → Nat) (n k : Nat) (τ0 : St) (b d : Nat) (W : List Int32) (s' : PS) (X : Option (Int32 × St)) : Prop := ∃ τ' m F q', n - s'.1 < m ∧ n - s'.1 < F ∧ X = aft (nI b) m F τ' ∧ MR T n k τ0 τ' q' s' d W
def QP (T : Nat → Nat) (n k : Nat) (τ0 : St) (b d : Nat) (W : List Int32) (s' : PS) (X : Option (Int32 × St)) : Prop := ∃ τ' m F q', n - s'.1 < m ∧ n - s'.1 < F ∧ X = f_X11_sum_36 (nI b) (f_X11_sum_5 (nI b) m) F τ' ∧ MR T n k τ0 τ' q' s' d W ∧ ¬ sym T n s'.1 42 = true
def QS (T : Nat → Nat) (n k : Nat) (τ0 : St) (b d : Nat) (W : List Int32) (s' : PS) (X : Option (Int32 × St)) : Prop := ∃ τ' m F q' l, n - s'.1 < m ∧ n - s'.1 < F ∧ X = f_X11_sum_36 (nI b) (f_X11_sum_5 (nI b) m) F τ' ∧ PN T n k τ0 τ' q' s' d l W ∧ (l = [] ∨ l = [3] ∨ l = [4]) ∧ ¬ sym T n s'.1 42 = true ∧ ¬ sym T n s'.1 43 = true ∧ ¬ sym T n s'.1 45 = true
section SM
variable {T : Nat → Nat} {n k q d : Nat} {τ0 τ : St} {s : PS} {W V Wb l : List Int32}
set_option maxHeartbeats 200000 in
theorem PN.pops {c : Int32} (h : PN T n k τ0 τ q s d (c :: l) W) (hl : s.2.2.length ≤ 400) (hc : opM (vO c) = c ∧ agM (vO c) = 0) : ∃ τ', f_X11_pops τ = some τ' ∧ PN T n k τ0 τ' q s d l W := by
  obtain ⟨c0, h1, h2⟩ := h
  have hc0 : c0.length < 420 := by rw [h2, List.length_append] at hl; omega
  obtain ⟨τ', r1, r2⟩ := MR.pops (W := l ++ W) h1 hc0 hc.1 hc.2
  exact ⟨τ', r1, c0 ++ [vO c], r2, by rw [h2, List.append_assoc]; rfl⟩
set_option maxHeartbeats 200000 in
theorem PN.nil (h : PN T n k τ0 τ q s d [] W) : MR T n k τ0 τ q s d W := by
  obtain ⟨c0, h1, h2⟩ := h
  rw [show ([] : List Int32).map vO = [] from rfl, List.append_nil] at h2
  rw [← h2] at h1
  exact h1
set_option maxHeartbeats 200000 in
theorem PN.of (h : MR T n k τ0 τ q s d W) : PN T n k τ0 τ q s d [] W := ⟨s.2.2, h, (List.append_nil _).symm⟩
set_option maxHeartbeats 200000 in
theorem PN.one {c : Int32} (h : MR T n k τ0 τ q s d (c :: W)) {v : Int32} (hv : vO c = v) : PN T n k τ0 τ q (lay v s) d [c] W := ⟨s.2.2, h, by show s.2.2 ++ [v] = s.2.2 ++ [vO c]; rw [hv]⟩
set_option maxHeartbeats 200000 in
theorem PN.see (h : PN T n k τ0 τ q s d l W) : ∃ τ', f_X11_see τ = some (byI T n s.1, τ') ∧ PN T n k τ0 τ' s.1 s d l W := by
  obtain ⟨c0, h1, h2⟩ := h
  obtain ⟨τ', r1, r2⟩ := h1.see
  exact ⟨τ', r1, c0, r2, h2⟩
set_option maxHeartbeats 200000 in
theorem PN.ends (h : PN T n k τ0 τ q s d l (V ++ Wb)) (hl : l = [] ∨ l = [3] ∨ l = [4]) (h3 : V.head? ≠ some 3) (h4 : V.head? ≠ some 4) (hs : s.2.2.length ≤ 400) : ∃ τ', f_X11_endsSum (nI Wb.length) τ = some τ' ∧ MR T n k τ0 τ' q s d (V ++ Wb) := by
  unfold f_X11_endsSum f_X11_endsSum_18
  rcases hl with rfl | rfl | rfl
  · have h := h.nil
    rw [h.top 3, bS, if_neg h3, if_pos rfl, h.top 4, bS, if_neg h4, if_pos rfl]
    exact ⟨τ, rfl, h⟩
  · obtain ⟨c0, h1, h2⟩ := id h
    obtain ⟨τ', r1, r2⟩ := h.pops hs (by decide)
    rw [MR.top (V := 3 :: V) h1 3, bS, if_pos (show (3 :: V).head? = some 3 from rfl), if_neg (show ¬ (1 : Int32) = 0 by decide), r1, bS]
    exact ⟨τ', rfl, r2.nil⟩
  · obtain ⟨c0, h1, h2⟩ := id h
    obtain ⟨τ', r1, r2⟩ := h.pops hs (by decide)
    rw [MR.top (V := 4 :: V) h1 3, bS, if_neg (show ¬ (4 :: V).head? = some 3 from fun z => absurd (Option.some.inj z) (by decide)), if_pos rfl, MR.top (V := 4 :: V) h1 4, bS, if_pos (show (4 :: V).head? = some 4 from rfl), if_neg (show ¬ (1 : Int32) = 0 by decide), r1, bS]
    exact ⟨τ', rfl, r2.nil⟩
set_option maxHeartbeats 200000 in
theorem by_ne {p c c' : Nat} {T : Nat → Nat} {n : Nat} (hT : ∀ i, T i < 256) (h : sym T n p c = true) (hc : c ≠ c') (hc' : c' < 256) : ¬ byI T n p = nI c' := by
  rw [byI_sym (hT p) hc']
  exact sym_ne h hc
set_option maxHeartbeats 200000 in
theorem prodM (hT : ∀ i, T i < 256) {ra : Nat → Nat → PS → PR} (HV : ∀ s Wb V q τ m, GdR n s → (V ++ Wb).length ≤ s.1 → MR T n k τ0 τ q s d (V ++ Wb) → n - s.1 < m → RF T n k τ0 (f_X11_sum_5 (nI Wb.length) m τ) (ra 6 d s) (QV T n k τ0 Wb.length d (V ++ Wb))) (hr : ∀ s s', s.1 ≤ n → s.2.1 ≤ 80 → ra 6 d s = .inr s' → OkR n false s s') : ∀ (kk : Nat) (s0 s : PS) (q : Nat) (τ : St) (m F : Nat), n - s.1 < kk → GdR n s0 → OkR n false s0 s → (V ++ Wb).length ≤ s0.1 → MR T n k τ0 τ q s d (V ++ Wb) → n - s.1 < m → n - s.1 < F → RF T n k τ0 (f_X11_sum_36 (nI Wb.length) (f_X11_sum_5 (nI Wb.length) m) F τ) (aProdL T n ra d kk s) (QP T n k τ0 Wb.length d (V ++ Wb)) := by
  intro kk
  induction kk with
  | zero => intro s0 s q τ m F h; omega
  | succ kk ih =>
    intro s0 s q τ m F hk g0 o hW h hm hF
    by_cases c : sym T n s.1 42 = true
    · obtain ⟨F, rfl⟩ : ∃ z, F = z + 1 := ⟨F - 1, by omega⟩
      have n4 := h.1.1
      have gs := o.gd g0
      have nb := nx_b (T := T) (n := n) gs.1
      have nb3 := nb.2.2 (sym_lt c)
      have o1 := o.1
      have gs1 : GdR n (stp T n s) := ⟨nb.1, Nat.le_trans gs.2.1 nb.2.1, gs.2.2⟩
      obtain ⟨τ1, a1, a2⟩ := h.see
      obtain ⟨τ2, b1, b2⟩ := a2.see
      obtain ⟨τ3, d1, d2⟩ := b2.waits (by have := gs.1; omega) 2
      have d3 := d2.go1 c (by decide)
      have e42 : byI T n s.1 = 42 := (show (byI T n s.1 = 42) = _ from byI_sym (c := 42) (hT _) (by decide)).mpr c
      have st : f_X11_sum_36 (nI Wb.length) (f_X11_sum_5 (nI Wb.length) m) (F + 1) τ = f_X11_sum_5 (nI Wb.length) m (sF τ3 38 (gF τ3 38 + 1)) := by
        rw [f_X11_sum_36, a1, bS, if_neg (show ¬ byI T n s.1 = 41 from by_ne (c' := 41) hT c (by decide) (by decide))]
        unfold f_X11_sum_106 f_X11_sum_157
        show (f_X11_see τ1).bind _ = _
        rw [b1, bS, if_pos e42]
        show (f_X11_waits 2 τ2).bind _ = _
        rw [d1, bS, bndE]
      have ap : aProdL T n ra d (kk + 1) s = bnR (ra 6 d (stp T n s)) (fun s' => aProdL T n ra d kk (lay (-15) s')) := if_pos c
      have hv := HV (stp T n s) Wb (2 :: V) (s.1 + 1) _ m gs1 (by show (2 :: (V ++ Wb)).length ≤ nx T n s.1; rw [List.length_cons]; omega) d3 (show n - nx T n s.1 < m by omega)
      rw [st, ap]
      cases e : ra 6 d (stp T n s) with
      | inl f => rw [e] at hv; exact hv
      | inr s1 =>
        rw [e] at hv
        obtain ⟨τ4, m', F', q', l1, l2, x1, x2⟩ := hv
        have o1 := hr (stp T n s) s1 nb.1 gs.2.2 e
        have o2 : OkR n false s0 (lay (-15) s1) := o.join (s1 := stp T n s) nb3 (Nat.le_refl _) rfl o1 (by decide) (fun _ => rfl)
        have g2 := o2.gd g0
        have l3 : (s1.2.2 ++ [(-15 : Int32)]).length ≤ n := Nat.le_trans g2.2.1 g2.1
        rw [List.length_append] at l3
        have l3 : s1.2.2.length + 1 ≤ n := l3
        obtain ⟨τ5, y1, y2⟩ := MR.pops (W := V ++ Wb) x2 (by omega) (v := -15) (by decide) (by decide)
        rw [x1]
        unfold aft
        rw [MR.top (V := 2 :: V) x2 2, bS, if_pos (show (2 :: V).head? = some 2 from rfl), if_neg (show ¬ (1 : Int32) = 0 by decide), y1, bS]
        have p1 : nx T n s.1 < s1.1 := o1.1
        exact ih s0 (lay (-15) s1) q' τ5 m' F' (show n - s1.1 < kk by omega) g0 o2 hW y2 l1 l2
    · rw [show aProdL T n ra d (kk + 1) s = .inr s from if_neg c]
      exact ⟨τ, m, F, q, hm, hF, rfl, h, c⟩
set_option maxHeartbeats 200000 in
theorem lmSum (hT : ∀ i, T i < 256) {ra : Nat → Nat → PS → PR} (HP : ∀ s Wb V q τ m, GdR n s → (V ++ Wb).length ≤ s.1 → MR T n k τ0 τ q s d (V ++ Wb) → n - s.1 < m → V.head? ≠ some 2 → RF T n k τ0 (f_X11_sum_5 (nI Wb.length) m τ) (ra 5 d s) (QP T n k τ0 Wb.length d (V ++ Wb))) (hr : ∀ s s', s.1 ≤ n → s.2.1 ≤ 80 → ra 5 d s = .inr s' → OkR n false s s') (v3 : V.head? ≠ some 3) (v4 : V.head? ≠ some 4) : ∀ (kk : Nat) (s0 s : PS) (q : Nat) (τ : St) (m F : Nat) (l : List Int32), n - s.1 < kk → GdR n s0 → OkR n false s0 s → (V ++ Wb).length ≤ s0.1 → PN T n k τ0 τ q s d l (V ++ Wb) → (l = [] ∨ l = [3] ∨ l = [4]) → ¬ sym T n s.1 42 = true → n - s.1 < m → n - s.1 < F → RF T n k τ0 (f_X11_sum_36 (nI Wb.length) (f_X11_sum_5 (nI Wb.length) m) F τ) (aSumL T n ra d kk s) (QS T n k τ0 Wb.length d (V ++ Wb)) := by
  intro kk
  induction kk with
  | zero => intro s0 s q τ m F l h; omega
  | succ kk ih =>
    intro s0 s q τ m F l hk g0 o hW h hl n42 hm hF
    have step : ∀ (c : Nat) (op v : Int32), (c = 43 ∧ op = 3 ∧ v = -13 ∨ c = 45 ∧ op = 4 ∧ v = -14) → sym T n s.1 c = true → aSumL T n ra d (kk + 1) s = bnR (ra 5 d (stp T n s)) (fun s' => aSumL T n ra d kk (lay v s')) → RF T n k τ0 (f_X11_sum_36 (nI Wb.length) (f_X11_sum_5 (nI Wb.length) m) F τ) (aSumL T n ra d (kk + 1) s) (QS T n k τ0 Wb.length d (V ++ Wb)) := by
      intro c op v hcv c1 ap
      obtain ⟨F, rfl⟩ : ∃ z, F = z + 1 := ⟨F - 1, by omega⟩
      have gs := o.gd g0
      have nb := nx_b (T := T) (n := n) gs.1
      have nb3 := nb.2.2 (sym_lt c1)
      have o1 := o.1
      have gs1 : GdR n (stp T n s) := ⟨nb.1, Nat.le_trans gs.2.1 nb.2.1, gs.2.2⟩
      have hcc : c ≠ 41 ∧ c ≠ 42 ∧ isLo c = false ∧ isDg c = false ∧ c ≠ 60 ∧ c ≠ 62 := by rcases hcv with ⟨rfl, -, -⟩ | ⟨rfl, -, -⟩ <;> decide
      obtain ⟨τ1, a1, a2⟩ := h.see
      obtain ⟨τ2, b1, b2⟩ := a2.see
      have n4 : n ≤ 400 := by obtain ⟨c0, z, -⟩ := h; exact z.1.1
      obtain ⟨τ3, d1, d2⟩ := b2.ends hl v3 v4 (by have := gs.1; have := gs.2.1; omega)
      obtain ⟨τ4, k1, k2⟩ := d2.waits (by have := gs.1; omega) op
      have d3 := k2.go1 c1 hcc.2.2
      have st : f_X11_sum_36 (nI Wb.length) (f_X11_sum_5 (nI Wb.length) m) (F + 1) τ = f_X11_sum_5 (nI Wb.length) m (sF τ4 38 (gF τ4 38 + 1)) := by
        rw [f_X11_sum_36, a1, bS, if_neg (show ¬ byI T n s.1 = 41 from by_ne (c' := 41) hT c1 hcc.1 (by decide))]
        unfold f_X11_sum_106 f_X11_sum_137 f_X11_sum_157
        show (f_X11_see τ1).bind _ = _
        rw [b1, bS, if_neg (show ¬ byI T n s.1 = 42 from by_ne (c' := 42) hT c1 hcc.2.1 (by decide))]
        rcases hcv with ⟨rfl, rfl, rfl⟩ | ⟨rfl, rfl, rfl⟩
        · have e : byI T n s.1 = 43 := (show (byI T n s.1 = 43) = _ from byI_sym (c := 43) (hT _) (by decide)).mpr c1
          rw [if_pos e]
          show (f_X11_endsSum (nI Wb.length) τ2).bind _ = _
          rw [d1, bS, bndE, if_pos e, k1, bS, bndE]
        · have e : byI T n s.1 = 45 := (show (byI T n s.1 = 45) = _ from byI_sym (c := 45) (hT _) (by decide)).mpr c1
          have e' : ¬ byI T n s.1 = 43 := by_ne (c' := 43) hT c1 (by decide) (by decide)
          rw [if_neg e', if_pos e]
          show (f_X11_endsSum (nI Wb.length) τ2).bind _ = _
          rw [d1, bS, bndE, if_neg e', k1, bS, bndE]
      have hop : (op :: V).head? ≠ some 2 := by rcases hcv with ⟨-, rfl, -⟩ | ⟨-, rfl, -⟩ <;> exact fun z => absurd (Option.some.inj z) (by decide)
      have hv := HP (stp T n s) Wb (op :: V) (s.1 + 1) _ m gs1 (by show (op :: (V ++ Wb)).length ≤ nx T n s.1; rw [List.length_cons]; omega) d3 (show n - nx T n s.1 < m by omega) hop
      rw [st, ap]
      cases e : ra 5 d (stp T n s) with
      | inl f => rw [e] at hv; exact hv
      | inr s1 =>
        rw [e] at hv
        obtain ⟨τ5, m', F', q', l1, l2, x1, x2, x3⟩ := hv
        have o1 := hr (stp T n s) s1 nb.1 gs.2.2 e
        have o2 : OkR n false s0 (lay v s1) := o.join (s1 := stp T n s) nb3 (Nat.le_refl _) rfl o1 (by rcases hcv with ⟨-, -, rfl⟩ | ⟨-, -, rfl⟩ <;> decide) (by rcases hcv with ⟨-, -, rfl⟩ | ⟨-, -, rfl⟩ <;> exact fun _ => rfl)
        have p1 : nx T n s.1 < s1.1 := o1.1
        rw [x1]
        exact ih s0 (lay v s1) q' τ5 m' F' [op] (show n - s1.1 < kk by omega) g0 o2 hW (PN.one (W := V ++ Wb) x2 (by rcases hcv with ⟨-, rfl, rfl⟩ | ⟨-, rfl, rfl⟩ <;> decide)) (by rcases hcv with ⟨-, rfl, -⟩ | ⟨-, rfl, -⟩; exact Or.inr (Or.inl rfl); exact Or.inr (Or.inr rfl)) x3 l1 l2
    by_cases c : sym T n s.1 43 = true
    · exact step 43 3 (-13) (Or.inl ⟨rfl, rfl, rfl⟩) c (if_pos c)
    · by_cases c' : sym T n s.1 45 = true
      · exact step 45 4 (-14) (Or.inr ⟨rfl, rfl, rfl⟩) c' ((if_neg c).trans (if_pos c'))
      · rw [show aSumL T n ra d (kk + 1) s = .inr s from (if_neg c).trans (if_neg c')]
        exact ⟨τ, m, F, q, l, hm, hF, rfl, h, hl, n42, c, c'⟩
end SM
