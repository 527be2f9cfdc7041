/-! the class's clauses -/
def Lo (N : Nat) (σ0 σ : St) : Prop := ∀ i, i < N → σ.2.1 38 i = σ0.2.1 38 i ∧ σ.2.1 39 i = σ0.2.1 39 i ∧ σ.2.1 40 i = σ0.2.1 40 i ∧ σ.2.1 41 i = σ0.2.1 41 i ∧ σ.2.1 42 i = σ0.2.1 42 i ∧ σ.2.1 43 i = σ0.2.1 43 i
set_option maxHeartbeats 200000 in
theorem Lo.tr {N N' : Nat} {σ0 σ σ' : St} (h : Lo N σ0 σ) (g : Lo N' σ σ') (hn : N ≤ N') : Lo N σ0 σ' := fun i hi => by
  obtain ⟨a1, a2, a3, a4, a5, a6⟩ := h i hi
  obtain ⟨b1, b2, b3, b4, b5, b6⟩ := g i (by omega)
  exact ⟨b1.trans a1, b2.trans a2, b3.trans a3, b4.trans a4, b5.trans a5, b6.trans a6⟩
set_option maxHeartbeats 200000 in
theorem Lo.fr {N : Nat} {σ σ' : St} {Ks Ls : List Nat} (f : Fr Ks [37] Ls σ σ') : Lo N σ σ' := fun i _ => by
  rw [f.2.1 38 (by decide), f.2.1 39 (by decide), f.2.1 40 (by decide), f.2.1 41 (by decide), f.2.1 42 (by decide), f.2.1 43 (by decide)]
  exact ⟨rfl, rfl, rfl, rfl, rfl, rfl⟩
def KpC (K k : Nat) (σ0 σ : St) : Prop := Fr [408, 503, 504, 505, 506, 507, 508, 509] [36, 37, 38, 39, 40, 41, 42, 43] [] σ0 σ ∧ (∀ i, i < K → σ.2.1 37 i = σ0.2.1 37 i) ∧ (∀ i, i < k → σ.2.1 36 i = σ0.2.1 36 i) ∧ Lo (12 * k) σ0 σ
set_option maxHeartbeats 200000 in
theorem KpC.mv {K k : Nat} {σ0 σ σ' : St} (h : KpC K k σ0 σ) (f : Fr [408, 503, 504, 505, 506, 507, 508, 509] [37] [] σ σ') (g : ∀ i, i < K → σ'.2.1 37 i = σ.2.1 37 i) : KpC K k σ0 σ' := ⟨h.1.tr (f.up (by decide)), fun i hi => (g i hi).trans (h.2.1 i hi), fun i hi => by rw [f.2.1 36 (by decide)]; exact h.2.2.1 i hi, h.2.2.2.tr (N' := 12 * k) (Lo.fr f) (Nat.le_refl _)⟩
set_option maxHeartbeats 200000 in
theorem KpC.far {K k N : Nat} {σ0 σ σ' : St} (h : KpC K k σ0 σ) (f : Fr [] [36, 38, 39, 40, 41, 42, 43] [] σ σ') (g : ∀ i, i < k → σ'.2.1 36 i = σ.2.1 36 i) (l : Lo N σ σ') (hN : 12 * k ≤ N) : KpC K k σ0 σ' := ⟨h.1.tr (f.up (by decide)), fun i hi => by rw [f.2.1 37 (by decide)]; exact h.2.1 i hi, fun i hi => (g i hi).trans (h.2.2.1 i hi), h.2.2.2.tr l hN⟩
def rK (σ : St) (k K c : Nat) (C : Cl) : Prop := σ.2.1 38 (12 * k + c) = nI C.1 ∧ σ.2.1 39 (12 * k + c) = C.2.1 ∧ σ.2.1 40 (12 * k + c) = nI C.2.2.1 ∧ σ.2.1 41 (12 * k + c) = nI (K + C.2.2.2.1) ∧ σ.2.1 42 (12 * k + c) = nI (K + C.2.2.2.2.1) ∧ σ.2.1 43 (12 * k + c) = nI (K + C.2.2.2.2.2)
set_option maxHeartbeats 200000 in
theorem rK.lo {σ σ' : St} {k K c N : Nat} {C : Cl} (h : rK σ k K c C) (l : Lo N σ σ') (hc : 12 * k + c < N) : rK σ' k K c C := by
  obtain ⟨a1, a2, a3, a4, a5, a6⟩ := h
  obtain ⟨b1, b2, b3, b4, b5, b6⟩ := l _ hc
  exact ⟨b1.trans a1, b2.trans a2, b3.trans a3, b4.trans a4, b5.trans a5, b6.trans a6⟩
def CK (T : Nat → Nat) (n K Ln k : Nat) (σ0 σ : St) (s : PS) (cs : List Cl) : Prop := CR T n K Ln σ σ s ∧ σ.1 400 = nI k ∧ k < 12 ∧ σ.2.1 36 k = nI cs.length ∧ (∀ c, c < cs.length → rK σ k K c (cs.getD c cl0)) ∧ KpC K k σ0 σ
def CFK (T : Nat → Nat) (n K Ln k : Nat) (σ0 σ : St) (f : Nat) : Prop := CF T n K Ln σ σ f ∧ σ.1 400 = nI k ∧ k < 12 ∧ (∃ j, j ≤ 12 ∧ σ.2.1 36 k = nI j) ∧ KpC K k σ0 σ
def CKX (T : Nat → Nat) (n K Ln k : Nat) (σ0 : St) (r : CT) (σ : St) : Prop := match r with
  | .inl f => CFK T n K Ln k σ0 σ f
  | .inr c => CK T n K Ln k σ0 σ c.1 c.2
section CC
variable {T : Nat → Nat} {n K Ln k f : Nat} {σ0 σ σ' : St} {s s' : PS} {cs : List Cl}
set_option maxHeartbeats 200000 in
theorem CR.self (h : CR T n K Ln σ0 σ s) : CR T n K Ln σ σ s := ⟨h.1, h.2.1, h.2.2.1, h.2.2.2.1, h.2.2.2.2.1, h.2.2.2.2.2.1, h.2.2.2.2.2.2.1, h.2.2.2.2.2.2.2.1, Fr.rf, fun _ _ => rfl⟩
set_option maxHeartbeats 200000 in
theorem CF.self (h : CF T n K Ln σ0 σ f) : CF T n K Ln σ σ f := ⟨h.1, h.2.1, h.2.2.1, h.2.2.2.1, Fr.rf, fun _ _ => rfl, h.2.2.2.2.2.2⟩
set_option maxHeartbeats 200000 in
theorem Lx.far {p : Nat} (h : Lx T n σ p) (f : Fr [] [36, 38, 39, 40, 41, 42, 43] [] σ σ') : Lx T n σ' p := by
  unfold Lx at h ⊢
  rw [f.1 505 (by decide), f.1 504 (by decide), f.1 503 (by decide), f.1 506 (by decide), f.1 507 (by decide)]
  exact h
set_option maxHeartbeats 200000 in
theorem CR.far (h : CR T n K Ln σ σ s) (f : Fr [] [36, 38, 39, 40, 41, 42, 43] [] σ σ') : CR T n K Ln σ' σ' s := by
  obtain ⟨h1, h2, h3, h4, h5, h6, h7, h8, h9, h10⟩ := h
  refine ⟨h1.fr f (by decide), h2.far f, h3, (f.1 508 (by decide)).trans h4, (f.1 509 (by decide)).trans h5, (f.1 408 (by decide)).trans h6, (f.1 3799 (by decide)).trans h7, ?_, Fr.rf, fun _ _ => rfl⟩
  rw [f.2.1 37 (by decide)]; exact h8
set_option maxHeartbeats 200000 in
theorem CF.far {fl : Nat} (h : CF T n K Ln σ σ fl) (f : Fr [] [36, 38, 39, 40, 41, 42, 43] [] σ σ') : CF T n K Ln σ' σ' fl := by
  obtain ⟨h1, ⟨a1, a2, a3⟩, ⟨j, j1, j2, j3⟩, h4, h5, h6, p, h7, h8⟩ := h
  exact ⟨h1.fr f (by decide), ⟨a1, a2, (f.1 509 (by decide)).trans a3⟩, ⟨j, j1, j2, (f.1 408 (by decide)).trans j3⟩, (f.1 3799 (by decide)).trans h4, Fr.rf, fun _ _ => rfl, p, h7, h8.far f⟩
set_option maxHeartbeats 200000 in
theorem CK.mv (h : CK T n K Ln k σ0 σ s cs) (g : CR T n K Ln σ σ' s') : CK T n K Ln k σ0 σ' s' cs := by
  obtain ⟨h1, h2, h3, h4, h5, h6⟩ := h
  obtain ⟨f, f2⟩ := g.2.2.2.2.2.2.2.2
  exact ⟨g.self, (f.1 400 (by decide)).trans h2, h3, by rw [f.2.1 36 (by decide)]; exact h4, fun c hc => (h5 c hc).lo (N := 12 * k + c + 1) (Lo.fr f) (by omega), h6.mv f f2⟩
set_option maxHeartbeats 200000 in
theorem CK.flt {fl : Nat} (h : CK T n K Ln k σ0 σ s cs) (hl : cs.length ≤ 12) (g : CF T n K Ln σ σ' fl) : CFK T n K Ln k σ0 σ' fl := by
  obtain ⟨h1, h2, h3, h4, h5, h6⟩ := h
  obtain ⟨f, f2, -⟩ := g.2.2.2.2
  exact ⟨g.self, (f.1 400 (by decide)).trans h2, h3, ⟨cs.length, hl, by rw [f.2.1 36 (by decide)]; exact h4⟩, h6.mv f f2⟩
set_option maxHeartbeats 200000 in
theorem CK.far (h : CK T n K Ln k σ0 σ s cs) (f : Fr [] [38, 39, 40, 41, 42, 43] [] σ σ') (l : Lo (12 * k + cs.length) σ σ') : CK T n K Ln k σ0 σ' s cs := by
  obtain ⟨h1, h2, h3, h4, h5, h6⟩ := h
  exact ⟨h1.far (f.up (by decide)), (f.1 400 (by decide)).trans h2, h3, by rw [f.2.1 36 (by decide)]; exact h4, fun c hc => (h5 c hc).lo l (by omega), h6.far (f.up (by decide)) (fun i _ => by rw [f.2.1 36 (by decide)]) l (by omega)⟩
set_option maxHeartbeats 200000 in
theorem CK.rdn (h : CK T n K Ln k σ0 σ s cs) : f_X2_clausesRead σ = some (nI cs.length) ∧ f_X2_clauseBeingRead σ = some (nI (12 * k + cs.length)) := by
  obtain ⟨h1, h2, h3, h4, h5, h6⟩ := h
  have e : f_X2_clausesRead σ = some (nI cs.length) := by
    unfold f_X2_clausesRead
    rw [show gF σ 400 = _ from h2, if_neg (show ¬ (12 : Int32) ≤ nI k from by rw [show (12 : Int32) = nI 12 from rfl, nI_leE (by omega) (by omega)]; omega), rdC_36 (by omega), bS, h4]
  refine ⟨e, ?_⟩
  unfold f_X2_clauseBeingRead
  rw [e, bS, show gF σ 400 = _ from h2, show nI k * 12 + nI cs.length = nI (12 * k + cs.length) from by rw [Int32.mul_comm]; exact ixc 12 _ _]
set_option maxHeartbeats 200000 in
theorem CK.lt12 {l : Nat} (h : l < 12) : ¬ (12 : Int32) ≤ nI l := by rw [show (12 : Int32) = nI 12 from rfl, nI_leE (by omega) (by omega)]; omega
set_option maxHeartbeats 200000 in
theorem CK.begin (h : CK T n K Ln k σ0 σ s cs) (hl : cs.length < 12) (t : Nat) (y : Int32) : ∃ σ', f_X2_beginClause (nI t) y σ = some σ' ∧ CK T n K Ln k σ0 σ' s cs ∧ σ'.2.1 38 (12 * k + cs.length) = nI t ∧ σ'.2.1 39 (12 * k + cs.length) = y ∧ σ'.2.1 40 (12 * k + cs.length) = nI 0 ∧ σ'.2.1 41 (12 * k + cs.length) = nI (K + s.2.2.length) := by
  have hk := h.2.2.1
  obtain ⟨e1, e2⟩ := h.rdn
  have e8 : σ.1 408 = nI (K + s.2.2.length) := h.1.2.2.2.2.2.1
  have f1 : Fr [] [38, 39, 40, 41, 42, 43] [] σ (sA (sA (sA (sA σ 38 (12 * k + cs.length) (nI t)) 39 (12 * k + cs.length) y) 40 (12 * k + cs.length) 0) 41 (12 * k + cs.length) (nI (K + s.2.2.length))) := (((Fr.rf.wA (by decide)).wA (by decide)).wA (by decide)).wA (by decide)
  refine ⟨sA (sA (sA (sA σ 38 (12 * k + cs.length) (nI t)) 39 (12 * k + cs.length) y) 40 (12 * k + cs.length) 0) 41 (12 * k + cs.length) (nI (K + s.2.2.length)), ?_, h.far f1 (fun i hi => ⟨upd_ne _ _ (by omega), upd_ne _ _ (by omega), upd_ne _ _ (by omega), upd_ne _ _ (by omega), rfl, rfl⟩), upd_at _ _ _, upd_at _ _ _, upd_at _ _ _, upd_at _ _ _⟩
  unfold f_X2_beginClause
  rw [e1, bS, if_neg (CK.lt12 hl), e2, bS, wrC_38 (by omega), bS, wrC_39 (by omega), bS, wrC_40 (by omega), bS, show gF (sA (sA (sA σ 38 (12 * k + cs.length) (nI t)) 39 (12 * k + cs.length) y) 40 (12 * k + cs.length) 0) 408 = _ from e8, wrC_41 (by omega), bS]
set_option maxHeartbeats 200000 in
theorem CK.bcond (h : CK T n K Ln k σ0 σ s cs) (hl : cs.length < 12) : ∃ σ', f_X2_beginCond σ = some σ' ∧ CK T n K Ln k σ0 σ' s cs ∧ Fr [] [42] [] σ σ' ∧ σ'.2.1 42 (12 * k + cs.length) = nI (K + s.2.2.length) := by
  have hk := h.2.2.1
  obtain ⟨e1, e2⟩ := h.rdn
  have e8 : σ.1 408 = nI (K + s.2.2.length) := h.1.2.2.2.2.2.1
  have f1 : Fr [] [42] [] σ (sA σ 42 (12 * k + cs.length) (nI (K + s.2.2.length))) := Fr.rf.wA (by decide)
  refine ⟨sA σ 42 (12 * k + cs.length) (nI (K + s.2.2.length)), ?_, h.far (f1.up (by decide)) (fun i hi => ⟨rfl, rfl, rfl, rfl, upd_ne _ _ (by omega), rfl⟩), f1, upd_at _ _ _⟩
  unfold f_X2_beginCond
  rw [e1, bS, if_neg (CK.lt12 hl), e2, bS, show gF σ 408 = _ from e8, wrC_42 (by omega), bS]
set_option maxHeartbeats 200000 in
theorem CK.scond (h : CK T n K Ln k σ0 σ s cs) (hl : cs.length < 12) (y : Nat) : ∃ σ', f_X2_setCond (nI y) σ = some σ' ∧ CK T n K Ln k σ0 σ' s cs ∧ Fr [] [40] [] σ σ' ∧ σ'.2.1 40 (12 * k + cs.length) = nI y := by
  have hk := h.2.2.1
  obtain ⟨e1, e2⟩ := h.rdn
  have f1 : Fr [] [40] [] σ (sA σ 40 (12 * k + cs.length) (nI y)) := Fr.rf.wA (by decide)
  refine ⟨sA σ 40 (12 * k + cs.length) (nI y), ?_, h.far (f1.up (by decide)) (fun i hi => ⟨rfl, rfl, upd_ne _ _ (by omega), rfl, rfl, rfl⟩), f1, upd_at _ _ _⟩
  unfold f_X2_setCond
  rw [e1, bS, if_neg (CK.lt12 hl), e2, bS, wrC_40 (by omega), bS]
set_option maxHeartbeats 200000 in
theorem getD_app {cs : List Cl} {C : Cl} {c : Nat} (hc : c < cs.length) : (cs ++ [C]).getD c cl0 = cs.getD c cl0 := by
  rw [List.getD_eq_getElem?_getD, List.getElem?_append_left hc, ← List.getD_eq_getElem?_getD]
set_option maxHeartbeats 200000 in
theorem getD_new {cs : List Cl} {C : Cl} : (cs ++ [C]).getD cs.length cl0 = C := by
  rw [List.getD_eq_getElem?_getD, List.getElem?_append_right (Nat.le_refl _), Nat.sub_self]; rfl
set_option maxHeartbeats 200000 in
theorem CK.fin (h : CK T n K Ln k σ0 σ s cs) (hl : cs.length < 12) {t z a b : Nat} {y : Int32} (r1 : σ.2.1 38 (12 * k + cs.length) = nI t) (r2 : σ.2.1 39 (12 * k + cs.length) = y) (r3 : σ.2.1 40 (12 * k + cs.length) = nI z) (r4 : σ.2.1 41 (12 * k + cs.length) = nI (K + a)) (r5 : σ.2.1 42 (12 * k + cs.length) = nI (K + b)) : ∃ σ', f_X2_endClause σ = some σ' ∧ CK T n K Ln k σ0 σ' s (cs ++ [(t, y, z, a, b, s.2.2.length)]) := by
  have h' := h
  obtain ⟨h1, h2, h3, h4, h5, h6⟩ := h
  obtain ⟨e1, e2⟩ := h'.rdn
  have e8 : σ.1 408 = nI (K + s.2.2.length) := h1.2.2.2.2.2.1
  have f1 : Fr [] [36, 38, 39, 40, 41, 42, 43] [] σ (sA (sA σ 43 (12 * k + cs.length) (nI (K + s.2.2.length))) 36 k (nI (cs.length + 1))) := (Fr.rf.wA (by decide)).wA (by decide)
  have l1 : Lo (12 * k + cs.length) σ (sA (sA σ 43 (12 * k + cs.length) (nI (K + s.2.2.length))) 36 k (nI (cs.length + 1))) := fun i hi => ⟨rfl, rfl, rfl, rfl, rfl, upd_ne _ _ (by omega)⟩
  have ll : (cs ++ [(t, y, z, a, b, s.2.2.length)]).length = cs.length + 1 := by rw [List.length_append]; rfl
  refine ⟨sA (sA σ 43 (12 * k + cs.length) (nI (K + s.2.2.length))) 36 k (nI (cs.length + 1)), ?_, h1.far f1, h2, h3, ?_, fun c hc => ?_, h6.far f1 (fun i hi => upd_ne _ _ (by omega)) l1 (by omega)⟩
  · unfold f_X2_endClause
    rw [e1, bS, if_neg (CK.lt12 hl), e2, bS, show gF σ 408 = _ from e8, wrC_43 (by omega), bS, bndE, show gF (sA σ 43 (12 * k + cs.length) (nI (K + s.2.2.length))) 400 = _ from h2, rdC_36 (by omega), bS, show (sA σ 43 (12 * k + cs.length) (nI (K + s.2.2.length))).2.1 36 k = _ from h4, show nI cs.length + 1 = nI (cs.length + 1) from nI_add _ 1, wrC_36 (by omega), bS]
  · rw [ll]; exact upd_at _ _ _
  · rw [ll] at hc
    by_cases e : c = cs.length
    · rw [e, getD_new]
      exact ⟨r1, r2, r3, r4, r5, upd_at _ _ _⟩
    · rw [getD_app (show c < cs.length by omega)]
      exact (h5 c (by omega)).lo l1 (by omega)
set_option maxHeartbeats 200000 in
theorem CFK.rdn (h : CFK T n K Ln k σ0 σ f) : ∃ j, j ≤ 12 ∧ σ.2.1 36 k = nI j ∧ f_X2_clausesRead σ = some (nI j) ∧ f_X2_clauseBeingRead σ = some (nI (12 * k + j)) := by
  obtain ⟨h1, h2, h3, ⟨j, hj, h4⟩, h6⟩ := h
  have e : f_X2_clausesRead σ = some (nI j) := by
    unfold f_X2_clausesRead
    rw [show gF σ 400 = _ from h2, if_neg (show ¬ (12 : Int32) ≤ nI k from by rw [show (12 : Int32) = nI 12 from rfl, nI_leE (by omega) (by omega)]; omega), rdC_36 (by omega), bS, h4]
  refine ⟨j, hj, h4, e, ?_⟩
  unfold f_X2_clauseBeingRead
  rw [e, bS, show gF σ 400 = _ from h2, show nI k * 12 + nI j = nI (12 * k + j) from by rw [Int32.mul_comm]; exact ixc 12 _ _]
set_option maxHeartbeats 200000 in
theorem CFK.bcond (h : CFK T n K Ln k σ0 σ f) : ∃ σ', f_X2_beginCond σ = some σ' ∧ CFK T n K Ln k σ0 σ' f := by
  obtain ⟨j, hj, h4, e1, e2⟩ := h.rdn
  obtain ⟨h1, h2, h3, -, h6⟩ := id h
  unfold f_X2_beginCond
  rw [e1, bS]
  by_cases c : j < 12
  · have f1 : Fr [] [36, 38, 39, 40, 41, 42, 43] [] σ (sA σ 42 (12 * k + j) (gF σ 408)) := Fr.rf.wA (by decide)
    rw [if_neg (CK.lt12 c), e2, bS, wrC_42 (by omega), bS]
    exact ⟨_, rfl, h1.far f1, h2, h3, ⟨j, hj, h4⟩, h6.far f1 (fun _ _ => rfl) (N := 12 * k) (fun i hi => ⟨rfl, rfl, rfl, rfl, upd_ne _ _ (by omega), rfl⟩) (Nat.le_refl _)⟩
  · rw [if_pos (show (12 : Int32) ≤ nI j from nI_le (a := 12) (by omega) (by omega))]
    exact ⟨σ, rfl, h⟩
set_option maxHeartbeats 200000 in
theorem CFK.fin (h : CFK T n K Ln k σ0 σ f) : ∃ σ', f_X2_endClause σ = some σ' ∧ CFK T n K Ln k σ0 σ' f := by
  obtain ⟨j, hj, h4, e1, e2⟩ := h.rdn
  obtain ⟨h1, h2, h3, -, h6⟩ := id h
  unfold f_X2_endClause
  rw [e1, bS]
  by_cases c : j < 12
  · have f1 : Fr [] [36, 38, 39, 40, 41, 42, 43] [] σ (sA (sA σ 43 (12 * k + j) (gF σ 408)) 36 k (nI (j + 1))) := (Fr.rf.wA (by decide)).wA (by decide)
    rw [if_neg (CK.lt12 c), e2, bS, wrC_43 (by omega), bS, bndE, show gF (sA σ 43 (12 * k + j) (gF σ 408)) 400 = _ from h2, rdC_36 (by omega), bS, show (sA σ 43 (12 * k + j) (gF σ 408)).2.1 36 k = _ from h4, show nI j + 1 = nI (j + 1) from nI_add _ 1, wrC_36 (by omega), bS]
    exact ⟨_, rfl, h1.far f1, h2, h3, ⟨j + 1, by omega, upd_at _ _ _⟩, h6.far f1 (fun i hi => upd_ne _ _ (by omega)) (N := 12 * k) (fun i hi => ⟨rfl, rfl, rfl, rfl, rfl, upd_ne _ _ (by omega)⟩) (Nat.le_refl _)⟩
  · rw [if_pos (show (12 : Int32) ≤ nI j from nI_le (a := 12) (by omega) (by omega))]
    exact ⟨σ, rfl, h⟩
set_option maxHeartbeats 200000 in
theorem CFK.cond (h : CFK T n K Ln k σ0 σ f) : f_X4_readCond σ = some σ := by
  obtain ⟨p, hp, L⟩ := h.1.2.2.2.2.2.2
  have ne := h.1.ne
  have w : ∀ y, f_X4_readCond_27 y σ = some σ := fun y => by unfold f_X4_readCond_27; rw [if_neg ne]
  unfold f_X4_readCond
  rw [isWC h.1.1 L hp (wdC (w := 10) (by decide)), bS, isWC h.1.1 L hp (wdC (w := 11) (by decide)), bS, w, w, w]
  simp only [ite_self]
set_option maxHeartbeats 200000 in
theorem CFK.all (h : CFK T n K Ln k σ0 σ f) (x2 : Int32) : ∃ σ', f_X4_readClause_145 x2 σ = some σ' ∧ CFK T n K Ln k σ0 σ' f := by
  obtain ⟨σ1, a1, a2⟩ := h.bcond
  obtain ⟨σ2, b1, b2⟩ := a2.fin
  refine ⟨σ2, ?_, b2⟩
  unfold f_X4_readClause_145 f_X4_readClause_162
  rw [a1, bS, a2.cond, bS, b1, bS]
  split <;> rfl
set_option maxHeartbeats 200000 in
theorem condC (hT : ∀ i, T i < 256) (hL : Ln < 9000) (hK : K + 400 ≤ Ln) (h : CK T n K Ln k σ0 σ s cs) (hl : cs.length < 12) (g : GdR n s) {x2 : Int32} (hx : ¬ x2 = 7) {t a : Nat} {y : Int32} (r1 : σ.2.1 38 (12 * k + cs.length) = nI t) (r2 : σ.2.1 39 (12 * k + cs.length) = y) (r3 : σ.2.1 40 (12 * k + cs.length) = nI 0) (r4 : σ.2.1 41 (12 * k + cs.length) = nI (K + a)) : ∃ σ', f_X4_readClause_145 x2 σ = some σ' ∧ CKX T n K Ln k σ0 (aCond T n cs t y a s) σ' := by
  obtain ⟨σ1, a1, a2, a3, a4⟩ := h.bcond hl
  have nb := nx_b (T := T) (n := n) g.1
  have gs1 : GdR n (stp T n s) := ⟨nb.1, Nat.le_trans g.2.1 nb.2.1, g.2.2⟩
  have two : ∀ z, f_X4_readCond σ1 = f_X4_readCond_27 (nI z) σ1 → (z = 1 ∨ z = 2) → ∃ σ', (f_X4_readCond σ1).bind (fun σ48 => f_X4_readClause_162 σ48) = some σ' ∧ CKX T n K Ln k σ0 (bnC (AG T n 120 0 0 (stp T n s)) (fun s2 => .inr (s2, cs ++ [(t, y, z, a, s.2.2.length, s2.2.2.length)]))) σ' := by
    intro z e hz
    obtain ⟨σ2, b1, b2, b3, b4⟩ := a2.scond hl z
    obtain ⟨σ3, d1, d2⟩ := b2.1.adv
    obtain ⟨σ4, k1, k2⟩ := RG_ok (σ0 := σ2) hT hL hK 120 0 0 _ σ3 (by omega) (by omega) (by omega) gs1 d2
    have st : f_X4_readCond σ1 = some σ4 := by
      rw [e]
      unfold f_X4_readCond_27 rG
      rw [if_pos a2.1.ok, if_neg (show ¬ nI z = 0 from by rw [show (0 : Int32) = nI 0 from rfl, nI_eqE (by omega) (by omega)]; omega), b1, bS, d1, bS, show RG 120 0 0 σ3 = _ from k1, bS]
    rw [st, bS]
    unfold f_X4_readClause_162
    cases er : AG T n 120 0 0 (stp T n s) with
    | inl fl =>
      rw [er] at k2
      obtain ⟨σ5, y1, y2⟩ := (b2.flt (by omega) k2).fin
      exact ⟨σ5, by rw [y1, bS], y2⟩
    | inr s2 =>
      rw [er] at k2
      have k2 : CR T n K Ln σ2 σ4 s2 := k2
      have f4 := k2.2.2.2.2.2.2.2.2.1
      obtain ⟨σ5, y1, y2⟩ := (b2.mv k2).fin hl (t := t) (z := z) (a := a) (b := s.2.2.length) (y := y) (by rw [f4.2.1 38 (by decide), b3.2.1 38 (by decide), a3.2.1 38 (by decide)]; exact r1) (by rw [f4.2.1 39 (by decide), b3.2.1 39 (by decide), a3.2.1 39 (by decide)]; exact r2) (by rw [f4.2.1 40 (by decide)]; exact b4) (by rw [f4.2.1 41 (by decide), b3.2.1 41 (by decide), a3.2.1 41 (by decide)]; exact r4) (by rw [f4.2.1 42 (by decide), b3.2.1 42 (by decide)]; exact a4)
      exact ⟨σ5, by rw [y1, bS], y2⟩
  unfold f_X4_readClause_145 aCond
  rw [a1, bS, if_neg hx]
  have w10 := a2.1.wd (w := 10) (by decide)
  have w11 := a2.1.wd (w := 11) (by decide)
  by_cases c1 : wdB T n s.1 (wl_ 10) = true
  · rw [if_pos c1]
    refine two 1 ?_ (Or.inl rfl)
    unfold f_X4_readCond
    rw [w10, bS, if_pos c1, if_neg (show ¬ (1 : Int32) = 0 by decide)]; rfl
  · rw [if_neg c1]
    by_cases c2 : wdB T n s.1 (wl_ 11) = true
    · rw [if_pos c2]
      refine two 2 ?_ (Or.inr rfl)
      unfold f_X4_readCond
      rw [w10, bS, if_neg c1, if_pos rfl, w11, bS, if_pos c2, if_neg (show ¬ (1 : Int32) = 0 by decide)]; rfl
    · rw [if_neg c2]
      have st : f_X4_readCond σ1 = some σ1 := by
        unfold f_X4_readCond f_X4_readCond_27
        rw [w10, bS, if_neg c1, if_pos rfl, w11, bS, if_neg c2, if_pos rfl, if_pos a2.1.ok, if_pos rfl]
      rw [st, bS]
      unfold f_X4_readClause_162
      obtain ⟨σ5, y1, y2⟩ := a2.fin hl (t := t) (z := 0) (a := a) (b := s.2.2.length) (y := y) (by rw [a3.2.1 38 (by decide)]; exact r1) (by rw [a3.2.1 39 (by decide)]; exact r2) (by rw [a3.2.1 40 (by decide)]; exact r3) (by rw [a3.2.1 41 (by decide)]; exact r4) a4
      exact ⟨σ5, by rw [y1, bS], y2⟩
end CC
