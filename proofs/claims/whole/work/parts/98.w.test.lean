/-! the reference's tests keep to plain descent -/
def aftT (x1 : Int32) (m F G : Nat) (τ : St) : Option (Int32 × St) := (f_X11_endedFact_0 x1 G τ).bind fun τ1 => f_X11_test_91 x1 (f_X11_test_5 x1 m) F τ1
def QF (T : Nat → Nat) (n k : Nat) (τ0 : St) (b d : Nat) (W : List Int32) (s' : PS) (X : Option (Int32 × St)) : Prop := ∃ τ' m F G q', n - s'.1 < m ∧ n - s'.1 < F ∧ W.length < G ∧ X = aftT (nI b) m F G τ' ∧ MR T n k τ0 τ' q' s' d W
def QA (T : Nat → Nat) (n k : Nat) (τ0 : St) (b d : Nat) (W : List Int32) (s' : PS) (X : Option (Int32 × St)) : Prop := ∃ τ' m F q' l, n - s'.1 < m ∧ n - s'.1 < F ∧ X = f_X11_test_91 (nI b) (f_X11_test_5 (nI b) m) F τ' ∧ PN T n k τ0 τ' q' s' d l W ∧ (l = [] ∨ l = [11]) ∧ ¬ wdB T n s'.1 (wl_ 13) = true
def QO (T : Nat → Nat) (n k : Nat) (τ0 : St) (b d : Nat) (W : List Int32) (s' : PS) (X : Option (Int32 × St)) : Prop := ∃ τ' m F q' l, n - s'.1 < m ∧ n - s'.1 < F ∧ X = f_X11_test_91 (nI b) (f_X11_test_5 (nI b) m) F τ' ∧ PN T n k τ0 τ' q' s' d l W ∧ ((∀ c ∈ l, c = 11 ∨ c = 12) ∧ l.length ≤ 2) ∧ ¬ wdB T n s'.1 (wl_ 13) = true ∧ ¬ wdB T n s'.1 (wl_ 12) = true
section TM
variable {T : Nat → Nat} {n k q d : Nat} {τ0 τ : St} {s : PS} {W V Wb l : List Int32}
set_option maxHeartbeats 200000 in
theorem PN.wd (h : PN T n k τ0 τ q s d l W) {w : Nat} (hw : w < 24) : ∃ τ', f_X11_isWord (Int64.ofNat (wc_ w)) τ = some (if wdB T n s.1 (wl_ w) then 1 else 0, τ') ∧ PN T n k τ0 τ' s.1 s d l W := by
  obtain ⟨c0, h1, h2⟩ := h
  obtain ⟨τ', r1, r2⟩ := h1.wd hw
  exact ⟨τ', r1, c0, r2, h2⟩
set_option maxHeartbeats 200000 in
theorem PN.skip (h : PN T n k τ0 τ s.1 s d l W) (hl : s.1 < n ∧ isLo (T s.1) = true) : ∃ τ' q', f_X11_skips τ = some τ' ∧ PN T n k τ0 τ' q' (stp T n s) d l W := by
  obtain ⟨c0, h1, h2⟩ := h
  obtain ⟨τ', q', r1, r2⟩ := MR.skip (s := (s.1, s.2.1, c0)) h1 hl
  exact ⟨τ', q', r1, c0, r2, h2⟩
set_option maxHeartbeats 200000 in
theorem op_l {c : Int32} (h : c = 11 ∨ c = 12) : opM (vO c) = c ∧ agM (vO c) = 0 := by
  rcases h with rfl | rfl <;> decide
set_option maxHeartbeats 200000 in
theorem pop196 {x4 : Int32} {k5 : St → Option (Int32 × St)} (hs : s.2.2.length ≤ 400) (hV : V.head? ≠ some 11 ∧ (x4 = 0 → V.head? ≠ some 12)) : ∀ (l : List Int32) (τ : St) (F : Nat), l.length < F → (∀ c ∈ l, c = 11 ∨ (x4 = 0 ∧ c = 12)) → PN T n k τ0 τ q s d l (V ++ Wb) → ∃ τ', f_X11_test_196 (nI Wb.length) x4 k5 F τ = f_X11_test_228 (nI Wb.length) x4 τ' k5 ∧ MR T n k τ0 τ' q s d (V ++ Wb) := by
  intro l
  induction l with
  | nil =>
    intro τ F hF _ h
    obtain ⟨F, rfl⟩ : ∃ z, F = z + 1 := ⟨F - 1, by omega⟩
    have h := h.nil
    refine ⟨τ, ?_, h⟩
    rw [f_X11_test_196, h.top 11, bS, if_neg hV.1, if_pos rfl]
    by_cases c : x4 = 0
    · rw [if_pos c, h.top 12, bS, if_neg (hV.2 c), if_pos rfl]
    · rw [if_neg c]
  | cons c l ih =>
    intro τ F hF hl h
    rw [List.length_cons] at hF
    obtain ⟨F, rfl⟩ : ∃ z, F = z + 1 := ⟨F - 1, by omega⟩
    have hc := hl c (List.mem_cons_self ..)
    obtain ⟨τ1, r1, r2⟩ := h.pops hs (op_l (hc.imp id (fun z => z.2)))
    obtain ⟨c0, h1, -⟩ := h
    obtain ⟨τ', y1, y2⟩ := ih τ1 F (by omega) (fun x hx => hl x (List.mem_cons_of_mem _ hx)) r2
    refine ⟨τ', ?_, y2⟩
    rw [← y1, f_X11_test_196, MR.top (V := c :: (l ++ V)) (Wb := Wb) (by rw [show c :: (l ++ V) ++ Wb = c :: l ++ (V ++ Wb) from by rw [List.cons_append, List.append_assoc]; rfl]; exact h1) 11, bS]
    unfold f_X11_test_221
    by_cases e : c = 11
    · rw [if_pos (show (c :: (l ++ V)).head? = some 11 by rw [e]; rfl), if_neg (by decide), r1, bS]
    · obtain ⟨z1, z2⟩ := hc.resolve_left e
      rw [if_neg (show ¬ (c :: (l ++ V)).head? = some 11 from fun z => e (Option.some.inj z)), if_pos rfl, if_pos z1, MR.top (V := c :: (l ++ V)) (Wb := Wb) (by rw [show c :: (l ++ V) ++ Wb = c :: l ++ (V ++ Wb) from by rw [List.cons_append, List.append_assoc]; rfl]; exact h1) 12, bS, if_pos (show (c :: (l ++ V)).head? = some 12 by rw [z2]; rfl), if_neg (by decide), r1, bS]
set_option maxHeartbeats 200000 in
theorem pop110 {k91 k5 : St → Option (Int32 × St)} (hs : s.2.2.length ≤ 400) : ∀ (l : List Int32) (τ : St) (F : Nat), l.length < F → (∀ c ∈ l, c = 11 ∨ c = 12) → PN T n k τ0 τ q s d l (14 :: (V ++ Wb)) → ∃ τ', f_X11_test_110 (nI Wb.length) k91 k5 F τ = f_X11_test_127 (nI Wb.length) τ' k91 k5 ∧ MR T n k τ0 τ' q s d (14 :: (V ++ Wb)) := by
  intro l
  induction l with
  | nil =>
    intro τ F hF _ h
    obtain ⟨F, rfl⟩ : ∃ z, F = z + 1 := ⟨F - 1, by omega⟩
    have h := h.nil
    refine ⟨τ, ?_, h⟩
    rw [f_X11_test_110, MR.top (V := 14 :: V) (Wb := Wb) h 14, bS, if_pos (show (14 :: V).head? = some 14 from rfl), if_neg (by decide)]
  | cons c l ih =>
    intro τ F hF hl h
    rw [List.length_cons] at hF
    obtain ⟨F, rfl⟩ : ∃ z, F = z + 1 := ⟨F - 1, by omega⟩
    have hc := hl c (List.mem_cons_self ..)
    obtain ⟨τ1, r1, r2⟩ := h.pops hs (op_l hc)
    obtain ⟨c0, h1, -⟩ := h
    obtain ⟨τ', y1, y2⟩ := ih τ1 F (by omega) (fun x hx => hl x (List.mem_cons_of_mem _ hx)) r2
    refine ⟨τ', ?_, y2⟩
    rw [← y1, f_X11_test_110, MR.top (V := c :: (l ++ 14 :: V)) (Wb := Wb) (by rw [show c :: (l ++ 14 :: V) ++ Wb = c :: l ++ 14 :: (V ++ Wb) from by rw [List.cons_append, List.append_assoc]; rfl]; exact h1) 14, bS, if_neg (show ¬ (c :: (l ++ 14 :: V)).head? = some 14 from fun z => by have z := Option.some.inj z; rw [z] at hc; exact absurd hc (by decide)), if_pos rfl, r1, bS]
set_option maxHeartbeats 200000 in
theorem pop267 (hs : s.2.2.length ≤ 400) : ∀ (l : List Int32) (τ : St) (F : Nat), l.length < F → (∀ c ∈ l, c = 11 ∨ c = 12) → PN T n k τ0 τ q s d l Wb → ∃ τ', f_X11_test_267 (nI Wb.length) F τ = some (1, τ') ∧ MR T n k τ0 τ' q s d Wb := by
  intro l
  induction l with
  | nil =>
    intro τ F hF _ h
    obtain ⟨F, rfl⟩ : ∃ z, F = z + 1 := ⟨F - 1, by omega⟩
    have h := h.nil
    have hW := h.2.2.2.1.1
    refine ⟨τ, ?_, h⟩
    rw [f_X11_test_267, show gF τ 43 = _ from h.2.2.1.2.2.2.1, if_pos (nI_le (Nat.le_refl _) (by omega))]
  | cons c l ih =>
    intro τ F hF hl h
    rw [List.length_cons] at hF
    obtain ⟨F, rfl⟩ : ∃ z, F = z + 1 := ⟨F - 1, by omega⟩
    have hc := hl c (List.mem_cons_self ..)
    obtain ⟨τ1, r1, r2⟩ := h.pops hs (op_l hc)
    obtain ⟨c0, h1, -⟩ := h
    have hW : ((c :: l) ++ Wb).length ≤ 410 := h1.2.2.2.1.1
    have h43 : τ.1 43 = nI ((c :: l) ++ Wb).length := h1.2.2.1.2.2.2.1
    obtain ⟨τ', y1, y2⟩ := ih τ1 F (by omega) (fun x hx => hl x (List.mem_cons_of_mem _ hx)) r2
    refine ⟨τ', ?_, y2⟩
    rw [List.length_append, List.length_cons] at hW h43
    rw [← y1, f_X11_test_267, show gF τ 43 = _ from h43, if_neg (nI_ge (by omega) (by omega)), r1, bS]
set_option maxHeartbeats 200000 in
theorem ended (h : MR T n k τ0 τ q s d (V ++ Wb)) (hV : V.head? ≠ some 10) {G : Nat} (hG : 0 < G) : f_X11_endedFact_0 (nI Wb.length) G τ = some τ := by
  obtain ⟨G, rfl⟩ : ∃ z, G = z + 1 := ⟨G - 1, by omega⟩
  rw [f_X11_endedFact_0, h.top 10, bS, if_neg hV, if_pos rfl]
set_option maxHeartbeats 200000 in
theorem by_lo (hT : ∀ i, T i < 256) {p : Nat} (h : p < n ∧ isLo (T p) = true) {c : Nat} (hc : c < 97) : ¬ byI T n p = nI c := by
  rw [byI_sym (hT p) (by omega)]
  intro z
  have z := (of_decide_eq_true z).2
  have h2 : 97 ≤ T p ∧ T p ≤ 122 := of_decide_eq_true h.2
  omega
set_option maxHeartbeats 200000 in
theorem partM (hT : ∀ i, T i < 256) {ra : Nat → Nat → PS → PR} (HF : ∀ s Wb V q τ m, GdR n s → (V ++ Wb).length ≤ s.1 → MR T n k τ0 τ q s d (V ++ Wb) → n - s.1 < m → RF T n k τ0 (f_X11_test_5 (nI Wb.length) m τ) (ra 2 d s) (QF T n k τ0 Wb.length d (V ++ Wb))) (hr : ∀ s s', s.1 ≤ n → s.2.1 ≤ 80 → ra 2 d s = .inr s' → OkR n true s s') (v11 : V.head? ≠ some 11) : ∀ (kk : Nat) (s0 s : PS) (q : Nat) (τ : St) (m F : Nat) (l : List Int32), n - s.1 < kk → GdR n s0 → OkR n true s0 s → (V ++ Wb).length ≤ s0.1 → PN T n k τ0 τ q s d l (V ++ Wb) → (l = [] ∨ l = [11]) → n - s.1 < m → n - s.1 < F → RF T n k τ0 (f_X11_test_91 (nI Wb.length) (f_X11_test_5 (nI Wb.length) m) F τ) (aPartL T n ra d kk s) (QA T n k τ0 Wb.length d (V ++ Wb)) := by
  intro kk
  induction kk with
  | zero => intro s0 s q τ m F l h; omega
  | succ kk ih =>
    intro s0 s q τ m F l hk g0 o hW h hl hm hF
    by_cases c : wdB T n s.1 (wl_ 13) = true
    · obtain ⟨F, rfl⟩ : ∃ z, F = z + 1 := ⟨F - 1, by omega⟩
      have gs := o.gd g0
      have nb := nx_b (T := T) (n := n) gs.1
      have nb3 := nb.2.2 (wdB_lt c)
      have o1 := o.1
      have gs1 : GdR n (stp T n s) := ⟨nb.1, Nat.le_trans gs.2.1 nb.2.1, gs.2.2⟩
      have n4 : n ≤ 400 := by obtain ⟨c0, z, -⟩ := h; exact z.1.1
      obtain ⟨τ1, a1, a2⟩ := h.see
      obtain ⟨τ2, b1, b2⟩ := a2.wd (w := 13) (by decide)
      obtain ⟨τ3, q3, d1, d2⟩ := b2.skip (wdB_lo c)
      obtain ⟨τ4, k1, k2⟩ := pop196 (x4 := 1) (k5 := f_X11_test_5 (nI Wb.length) m) (s := stp T n s) (V := V) (Wb := Wb) (show s.2.2.length ≤ 400 by have := gs.1; have := gs.2.1; omega) ⟨v11, fun z => absurd z (by decide)⟩ l τ3 FU (by rcases hl with rfl | rfl <;> unfold FU <;> decide) (by rcases hl with rfl | rfl <;> decide) d2
      obtain ⟨τ5, x1, x2⟩ := k2.waits (by have := gs.1; omega) 11
      have st : f_X11_test_91 (nI Wb.length) (f_X11_test_5 (nI Wb.length) m) (F + 1) τ = f_X11_test_5 (nI Wb.length) m τ5 := by
        rw [f_X11_test_91, a1, bS, if_neg (show ¬ byI T n s.1 = 93 from by_lo (c := 93) hT (wdB_lo c) (by decide))]
        unfold f_X11_test_165 f_X11_test_192
        show (f_X11_isWord 6385252 τ1).bind _ = _
        rw [show f_X11_isWord 6385252 τ1 = _ from b1, bS, if_pos c, if_neg (show ¬ (1 : Int32) = 0 by decide)]
        show (f_X11_skips τ2).bind _ = _
        rw [d1, bS]
        show f_X11_test_196 (nI Wb.length) 1 (f_X11_test_5 (nI Wb.length) m) FU τ3 = _
        rw [k1]
        unfold f_X11_test_228
        rw [bndE, if_neg (show ¬ (1 : Int32) = 0 by decide), x1, bS]
      have ap : aPartL T n ra d (kk + 1) s = bnR (ra 2 d (stp T n s)) (fun s' => aPartL T n ra d kk (lay (-11) s')) := if_pos c
      have hv := HF (stp T n s) Wb (11 :: V) q3 τ5 m gs1 (by show (11 :: (V ++ Wb)).length ≤ nx T n s.1; rw [List.length_cons]; omega) x2 (show n - nx T n s.1 < m by omega)
      rw [st, ap]
      cases e : ra 2 d (stp T n s) with
      | inl f => rw [e] at hv; exact hv
      | inr s1 =>
        rw [e] at hv
        obtain ⟨τ6, m', F', G', q', l1, l2, l3, y1, y2⟩ := hv
        have o1 := hr (stp T n s) s1 nb.1 gs.2.2 e
        have o2 : OkR n true s0 (lay (-11) s1) := o.join (s1 := stp T n s) nb3 (Nat.le_refl _) rfl o1 (by decide) (fun _ => rfl)
        have p1 : nx T n s.1 < s1.1 := o1.1
        rw [y1]
        unfold aftT
        rw [ended (V := 11 :: V) y2 (fun z => absurd (Option.some.inj z) (by decide)) (by omega), bS]
        exact ih s0 (lay (-11) s1) q' τ6 m' F' [11] (show n - s1.1 < kk by omega) g0 o2 hW (PN.one (W := V ++ Wb) y2 (by decide)) (Or.inr rfl) l1 l2
    · rw [show aPartL T n ra d (kk + 1) s = .inr s from if_neg c]
      exact ⟨τ, m, F, q, l, hm, hF, rfl, h, hl, c⟩
set_option maxHeartbeats 200000 in
theorem testM (hT : ∀ i, T i < 256) {ra : Nat → Nat → PS → PR} (HP : ∀ s Wb V q τ m, GdR n s → (V ++ Wb).length ≤ s.1 → MR T n k τ0 τ q s d (V ++ Wb) → n - s.1 < m → V.head? ≠ some 10 → V.head? ≠ some 11 → RF T n k τ0 (f_X11_test_5 (nI Wb.length) m τ) (ra 1 d s) (QA T n k τ0 Wb.length d (V ++ Wb))) (hr : ∀ s s', s.1 ≤ n → s.2.1 ≤ 80 → ra 1 d s = .inr s' → OkR n true s s') (v11 : V.head? ≠ some 11) (v12 : V.head? ≠ some 12) : ∀ (kk : Nat) (s0 s : PS) (q : Nat) (τ : St) (m F : Nat) (l : List Int32), n - s.1 < kk → GdR n s0 → OkR n true s0 s → (V ++ Wb).length ≤ s0.1 → PN T n k τ0 τ q s d l (V ++ Wb) → ((∀ c ∈ l, c = 11 ∨ c = 12) ∧ l.length ≤ 2) → ¬ wdB T n s.1 (wl_ 13) = true → n - s.1 < m → n - s.1 < F → RF T n k τ0 (f_X11_test_91 (nI Wb.length) (f_X11_test_5 (nI Wb.length) m) F τ) (aTestL T n ra d kk s) (QO T n k τ0 Wb.length d (V ++ Wb)) := by
  intro kk
  induction kk with
  | zero => intro s0 s q τ m F l h; omega
  | succ kk ih =>
    intro s0 s q τ m F l hk g0 o hW h hl n13 hm hF
    by_cases c : wdB T n s.1 (wl_ 12) = true
    · obtain ⟨F, rfl⟩ : ∃ z, F = z + 1 := ⟨F - 1, by omega⟩
      have gs := o.gd g0
      have nb := nx_b (T := T) (n := n) gs.1
      have nb3 := nb.2.2 (wdB_lt c)
      have o1 := o.1
      have gs1 : GdR n (stp T n s) := ⟨nb.1, Nat.le_trans gs.2.1 nb.2.1, gs.2.2⟩
      have n4 : n ≤ 400 := by obtain ⟨c0, z, -⟩ := h; exact z.1.1
      obtain ⟨τ1, a1, a2⟩ := h.see
      obtain ⟨τ2, b1, b2⟩ := a2.wd (w := 13) (by decide)
      obtain ⟨τ22, b3, b4⟩ := b2.wd (w := 12) (by decide)
      obtain ⟨τ3, q3, d1, d2⟩ := b4.skip (wdB_lo c)
      obtain ⟨τ4, k1, k2⟩ := pop196 (x4 := 0) (k5 := f_X11_test_5 (nI Wb.length) m) (s := stp T n s) (V := V) (Wb := Wb) (show s.2.2.length ≤ 400 by have := gs.1; have := gs.2.1; omega) ⟨v11, fun _ => v12⟩ l τ3 FU (by have := hl.2; unfold FU; omega) (fun x hx => (hl.1 x hx).imp id (fun z => ⟨rfl, z⟩)) d2
      obtain ⟨τ5, x1, x2⟩ := k2.waits (by have := gs.1; omega) 12
      have st : f_X11_test_91 (nI Wb.length) (f_X11_test_5 (nI Wb.length) m) (F + 1) τ = f_X11_test_5 (nI Wb.length) m τ5 := by
        rw [f_X11_test_91, a1, bS, if_neg (show ¬ byI T n s.1 = 93 from by_lo (c := 93) hT (wdB_lo c) (by decide))]
        unfold f_X11_test_165 f_X11_test_192
        show (f_X11_isWord 6385252 τ1).bind _ = _
        rw [show f_X11_isWord 6385252 τ1 = _ from b1, bS, if_neg n13, if_pos rfl]
        show (f_X11_isWord 28530 τ2).bind _ = _
        rw [show f_X11_isWord 28530 τ2 = _ from b3, bS, if_pos c, if_neg (show ¬ (1 : Int32) = 0 by decide)]
        show (f_X11_skips τ22).bind _ = _
        rw [d1, bS]
        show f_X11_test_196 (nI Wb.length) 0 (f_X11_test_5 (nI Wb.length) m) FU τ3 = _
        rw [k1]
        unfold f_X11_test_228
        rw [bndE, if_pos rfl, x1, bS]
      have ap : aTestL T n ra d (kk + 1) s = bnR (ra 1 d (stp T n s)) (fun s' => aTestL T n ra d kk (lay (-12) s')) := if_pos c
      have hv := HP (stp T n s) Wb (12 :: V) q3 τ5 m gs1 (by show (12 :: (V ++ Wb)).length ≤ nx T n s.1; rw [List.length_cons]; omega) x2 (show n - nx T n s.1 < m by omega) (fun z => absurd (Option.some.inj z) (by decide)) (fun z => absurd (Option.some.inj z) (by decide))
      rw [st, ap]
      cases e : ra 1 d (stp T n s) with
      | inl f => rw [e] at hv; exact hv
      | inr s1 =>
        rw [e] at hv
        obtain ⟨τ6, m', F', q', l', l1, l2, y1, y2, y3, y4⟩ := hv
        have o1 := hr (stp T n s) s1 nb.1 gs.2.2 e
        have o2 : OkR n true s0 (lay (-12) s1) := o.join (s1 := stp T n s) nb3 (Nat.le_refl _) rfl o1 (by decide) (fun _ => rfl)
        have p1 : nx T n s.1 < s1.1 := o1.1
        rw [y1]
        have pn : PN T n k τ0 τ6 q' (lay (-12) s1) d (l' ++ [12]) (V ++ Wb) := by
          obtain ⟨c0, z1, z2⟩ := y2
          refine ⟨c0, ?_, ?_⟩
          · rw [List.append_assoc]; exact z1
          · show s1.2.2 ++ [-12] = _
            rw [z2, List.map_append, List.append_assoc]; rfl
        exact ih s0 (lay (-12) s1) q' τ6 m' F' (l' ++ [12]) (show n - s1.1 < kk by omega) g0 o2 hW pn (by rcases y3 with rfl | rfl <;> decide) y4 l1 l2
    · rw [show aTestL T n ra d (kk + 1) s = .inr s from if_neg c]
      exact ⟨τ, m, F, q, l, hm, hF, rfl, h, hl, n13, c⟩
end TM
