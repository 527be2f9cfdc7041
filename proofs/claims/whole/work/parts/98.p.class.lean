/-! the class's reading keeps to plain descent -/
def CX (T : Nat → Nat) (n K Ln : Nat) (σ0 : St) (r : PR) (σ : St) : Prop := match r with
  | .inl f => CF T n K Ln σ0 σ f
  | .inr s => CR T n K Ln σ0 σ s
set_option maxHeartbeats 200000 in
theorem neg_nI {m : Nat} (hm : m < 1000) {x : Int32} (hx : x < 0) : ¬ nI m = x := fun e => by
  rw [← e, nI_lt0 (by omega)] at hx
  exact hx
set_option maxHeartbeats 200000 in
theorem tkK_sym {T : Nat → Nat} {n p c : Nat} (hT : T p < 256) (hc : c < 128 ∧ isLo c = false ∧ isDg c = false ∧ c ≠ 60 ∧ c ≠ 62) : (tkK T n p = nI c) = (sym T n p c = true) := by
  obtain ⟨h0, h1, h2, h3, h4⟩ := hc
  unfold tkK sym
  refine propext ⟨fun z => decide_eq_true ?_, fun z => ?_⟩
  · by_cases q : p < n
    · rw [if_pos q] at z
      refine ⟨q, ?_⟩
      by_cases l : isLo (T p) = true
      · rw [if_pos l] at z; exact absurd z.symm (neg_nI (by omega) (by decide))
      · rw [if_neg l] at z
        by_cases g : isDg (T p) = true
        · rw [if_pos g] at z; exact absurd z.symm (neg_nI (by omega) (by decide))
        · rw [if_neg g] at z
          split at z
          · rw [nI_eqE (by omega) (by omega)] at z; omega
          · rw [nI_eqE (by omega) (by omega)] at z; exact z
    · rw [if_neg q] at z; exact absurd z.symm (neg_nI (by omega) (by decide))
  · obtain ⟨z1, z2⟩ := of_decide_eq_true z
    rw [if_pos z1, z2, if_neg (by rw [h1]; decide), if_neg (by rw [h2]; decide), if_neg (by omega)]
set_option maxHeartbeats 200000 in
theorem dg_lo {c : Nat} (h : isDg c = true) : isLo c = false := by
  have h : 48 ≤ c ∧ c ≤ 57 := of_decide_eq_true h
  exact decide_eq_false (by omega)
set_option maxHeartbeats 200000 in
theorem tkK_dg {T : Nat → Nat} {n p : Nat} (hT : T p < 256) : (tkK T n p = -3) = (p < n ∧ isDg (T p) = true) := by
  unfold tkK
  refine propext ⟨fun z => ?_, fun z => ?_⟩
  · by_cases q : p < n
    · rw [if_pos q] at z
      refine ⟨q, ?_⟩
      by_cases l : isLo (T p) = true
      · rw [if_pos l] at z; exact absurd z (by decide)
      · rw [if_neg l] at z
        by_cases g : isDg (T p) = true
        · exact g
        · rw [if_neg g] at z
          split at z
          · exact absurd z (neg_nI (by omega) (by decide))
          · exact absurd z (neg_nI (by omega) (by decide))
    · rw [if_neg q] at z; exact absurd z (by decide)
  · rw [if_pos z.1, if_neg (by rw [dg_lo z.2]; decide), if_pos z.2]
def wv (o : Option Nat) : Int32 := match o with
  | none => -1
  | some k => nI k
section CS
variable {T : Nat → Nat} {n K Ln : Nat} {σ0 σ : St} {s : PS}
set_option maxHeartbeats 200000 in
theorem CR.sy (h : CR T n K Ln σ0 σ s) {c : Nat} (hc : c < 128 ∧ isLo c = false ∧ isDg c = false ∧ c ≠ 60 ∧ c ≠ 62) : (gF σ 504 = nI c) = (sym T n s.1 c = true) := by
  rw [show gF σ 504 = _ from h.2.1.2.1]
  exact tkK_sym (h.1.2.2.1 _) hc
set_option maxHeartbeats 200000 in
theorem CR.dg (h : CR T n K Ln σ0 σ s) : (gF σ 504 = -3) = (s.1 < n ∧ isDg (T s.1) = true) := by
  rw [show gF σ 504 = _ from h.2.1.2.1]
  exact tkK_dg (h.1.2.2.1 _)
set_option maxHeartbeats 200000 in
theorem CR.wd (h : CR T n K Ln σ0 σ s) {w : Nat} (hw : w < 24) : f_X4_isWord w σ = some (if wdB T n s.1 (wl_ w) then 1 else 0) := isWC h.1 h.2.1 h.2.2.1 (wdC hw)
set_option maxHeartbeats 200000 in
theorem CR.ok (h : CR T n K Ln σ0 σ s) : gF σ 509 = 0 := h.2.2.2.2.1
set_option maxHeartbeats 200000 in
theorem wd_i (b : Bool) : ((if b = true then 1 else 0 : Int32) = 0) = (¬ b = true) := by cases b <;> decide
set_option maxHeartbeats 200000 in
theorem CR.wn (h : CR T n K Ln σ0 σ s) : f_X4_wordNumber σ = some (wv (wno T n s.1)) := by
  have e : (gF σ 504 = -2) = (s.1 < n ∧ isLo (T s.1) = true) := by
    rw [show gF σ 504 = _ from h.2.1.2.1]
    have hT := h.1.2.2.1 s.1
    unfold tkK
    by_cases q : s.1 < n
    · rw [if_pos q]
      by_cases l : isLo (T s.1) = true
      · rw [if_pos l]; exact propext ⟨fun _ => ⟨q, l⟩, fun _ => rfl⟩
      · rw [if_neg l]
        refine propext ⟨fun z => ?_, fun z => absurd z.2 l⟩
        split at z
        · exact absurd z (by decide)
        · split at z
          · exact absurd z (neg_nI (by omega) (by decide))
          · exact absurd z (neg_nI (by omega) (by decide))
    · rw [if_neg q]; exact propext ⟨fun z => absurd z (by decide), fun z => absurd z.1 q⟩
  unfold f_X4_wordNumber
  by_cases c : s.1 < n ∧ isLo (T s.1) = true
  · rw [if_pos (e.mpr c), h.wd (w := 15) (by decide), bS, h.wd (w := 16) (by decide), bS, h.wd (w := 17) (by decide), bS, h.wd (w := 18) (by decide), bS, h.wd (w := 19) (by decide), bS, h.wd (w := 20) (by decide), bS, h.wd (w := 21) (by decide), bS, h.wd (w := 22) (by decide), bS, h.wd (w := 23) (by decide), bS]
    show _ = some (wv (if wdB T n s.1 (wl_ 15) = true then some 0 else if wdB T n s.1 (wl_ 16) = true then some 1 else if wdB T n s.1 (wl_ 17) = true then some 2 else if wdB T n s.1 (wl_ 18) = true then some 3 else if wdB T n s.1 (wl_ 19) = true then some 4 else if wdB T n s.1 (wl_ 20) = true then some 5 else if wdB T n s.1 (wl_ 21) = true then some 6 else if wdB T n s.1 (wl_ 22) = true then some 7 else if wdB T n s.1 (wl_ 23) = true then some 8 else none))
    generalize wdB T n s.1 (wl_ 15) = b0
    generalize wdB T n s.1 (wl_ 16) = b1
    generalize wdB T n s.1 (wl_ 17) = b2
    generalize wdB T n s.1 (wl_ 18) = b3
    generalize wdB T n s.1 (wl_ 19) = b4
    generalize wdB T n s.1 (wl_ 20) = b5
    generalize wdB T n s.1 (wl_ 21) = b6
    generalize wdB T n s.1 (wl_ 22) = b7
    generalize wdB T n s.1 (wl_ 23) = b8
    cases b0
    case true => rfl
    cases b1
    case true => rfl
    cases b2
    case true => rfl
    cases b3
    case true => rfl
    cases b4
    case true => rfl
    cases b5
    case true => rfl
    cases b6
    case true => rfl
    cases b7
    case true => rfl
    cases b8
    case true => rfl
    rfl
  · rw [if_neg (fun z => c (e.mp z))]
    have nw : ∀ ws, wdB T n s.1 ws = false := fun ws => by
      unfold wdB
      rw [decide_eq_false (fun z => c ⟨z.1, z.2.1⟩)]; rfl
    have hn : wno T n s.1 = none := by
      unfold wno
      cases g : fnd (fun k => wdB T n s.1 (wl_ (15 + k))) 9 0 with
      | none => rfl
      | some k =>
        have z : wdB T n s.1 (wl_ (15 + k)) = true := (fnd_lt g).2.2
        rw [nw] at z
        cases z
    rw [hn]; rfl
set_option maxHeartbeats 200000 in
theorem CR.deep (h : CR T n K Ln σ0 σ s) {d : Nat} (hd : d < 10) : f_X4_goesDeeper (nI d) σ = some (1, σ) := by
  unfold f_X4_goesDeeper f_X4_goesDeeper_18
  rw [if_pos h.ok, if_pos (show nI d < 10 from nI_lt (b := 10) hd (by decide)), if_pos h.ok]; rfl
set_option maxHeartbeats 200000 in
theorem CR.deepN (h : CR T n K Ln σ0 σ s) (hl : K + s.2.2.length ≤ Ln) {d : Nat} (hd : ¬ d < 10) (hd2 : d ≤ 10) : ∃ σ', f_X4_goesDeeper (nI d) σ = some (0, σ') ∧ CF T n K Ln σ0 σ' (1 + 8 * s.1 + 2) := by
  obtain ⟨σ', r1, r2⟩ := h.fail hl (k := 2) (by decide)
  refine ⟨σ', ?_, r2⟩
  unfold f_X4_goesDeeper f_X4_goesDeeper_18
  rw [if_pos h.ok, if_neg (show ¬ nI d < 10 from by rw [show (10 : Int32) = nI 10 from rfl, nI_ltE (by omega) (by omega)]; exact hd), show f_X4_fail 2 σ = _ from r1, bS, if_neg r2.ne]; rfl
set_option maxHeartbeats 200000 in
theorem CR.cnt (h : CR T n K Ln σ0 σ s) (hm : s.2.1 < 80) : ∃ σ', f_X4_countsOneMore σ = some (1, σ') ∧ CR T n K Ln σ0 σ' (s.1, s.2.1 + 1, s.2.2) := by
  have h' := h
  obtain ⟨h1, h2, h3, h4, h5, h6, h7, h8, h9, h10⟩ := h
  have f1 : Fr [408, 503, 504, 505, 506, 507, 508, 509] [37] [] σ (sF σ 508 (nI (s.2.1 + 1))) := Fr.rf.wF (by decide)
  refine ⟨sF σ 508 (nI (s.2.1 + 1)), ?_, h1.fr f1 (by decide), h2, h3, rfl, h5, h6, h7, h8, h9.tr f1, h10⟩
  unfold f_X4_countsOneMore f_X4_countsOneMore_21
  rw [if_pos h'.ok, show gF σ 508 = _ from h4, if_pos (show nI s.2.1 < 80 from nI_lt (b := 80) hm (by decide)), bndE, show nI s.2.1 + 1 = nI (s.2.1 + 1) from nI_add _ 1, if_pos (show gF (sF σ 508 (nI (s.2.1 + 1))) 509 = 0 from h5)]; rfl
set_option maxHeartbeats 200000 in
theorem CR.cntN (h : CR T n K Ln σ0 σ s) (hl : K + s.2.2.length ≤ Ln) (hm : ¬ s.2.1 < 80) (hm2 : s.2.1 ≤ 80) : ∃ σ', f_X4_countsOneMore σ = some (0, σ') ∧ CF T n K Ln σ0 σ' (1 + 8 * s.1 + 3) := by
  obtain ⟨σ1, r1, r2⟩ := h.fail hl (k := 3) (by decide)
  have f1 : Fr [408, 503, 504, 505, 506, 507, 508, 509] [37] [] σ1 (sF σ1 508 (gF σ1 508 + 1)) := Fr.rf.wF (by decide)
  have r3 := r2.ne
  obtain ⟨g1, g2, g3, g4, g5, g6, g7⟩ := r2
  refine ⟨sF σ1 508 (gF σ1 508 + 1), ?_, g1.fr f1 (by decide), g2, g3, g4, g5.tr f1, g6, g7⟩
  unfold f_X4_countsOneMore f_X4_countsOneMore_21
  rw [if_pos h.ok, show gF σ 508 = _ from h.2.2.2.1, if_neg (show ¬ nI s.2.1 < 80 from by rw [show (80 : Int32) = nI 80 from rfl, nI_ltE (by omega) (by omega)]; exact hm), show f_X4_fail 3 σ = _ from r1, bS, bndE, if_neg (show ¬ gF (sF σ1 508 (gF σ1 508 + 1)) 509 = 0 from r3)]; rfl
set_option maxHeartbeats 200000 in
theorem CR.clo (h : CR T n K Ln σ0 σ s) (hl : K + s.2.2.length ≤ Ln) {c : Nat} (hc : c < 128 ∧ isLo c = false ∧ isDg c = false ∧ c ≠ 60 ∧ c ≠ 62) : ∃ σ', f_X4_readClosing (nI c) σ = some σ' ∧ CX T n K Ln σ0 (if sym T n s.1 c = true then .inr (stp T n s) else flt s.1 0) σ' := by
  unfold f_X4_readClosing
  rw [if_pos h.ok]
  by_cases q : sym T n s.1 c = true
  · rw [if_pos ((h.sy hc).mpr q), if_pos q]
    obtain ⟨σ', r1, r2⟩ := h.adv
    exact ⟨σ', by rw [r1, bS], r2⟩
  · rw [if_neg (fun z => q ((h.sy hc).mp z)), if_neg q]
    obtain ⟨σ', r1, r2⟩ := h.fail hl (k := 0) (by decide)
    exact ⟨σ', by rw [show f_X4_fail 0 σ = _ from r1, bS], r2⟩
set_option maxHeartbeats 200000 in
theorem CF.clo {f : Nat} (h : CF T n K Ln σ0 σ f) (x : Int32) : f_X4_readClosing x σ = some σ := by
  unfold f_X4_readClosing
  rw [if_neg h.ne]
def HC (T : Nat → Nat) (n K Ln : Nat) (σ0 : St) (f : Nat) (rc : Nat → Int32 → St → Option St) (ra : Nat → Nat → PS → PR) : Prop := ∀ w d s σ, w ≤ 6 → d ≤ 10 → 7 * (10 - d) + 7 - w < f → GdR n s → CR T n K Ln σ0 σ s → ∃ σ', rc w (nI d) σ = some σ' ∧ CX T n K Ln σ0 (ra w d s) σ'
set_option maxHeartbeats 200000 in
theorem loopC (hL : Ln < 9000) (hK : K + 400 ≤ Ln) {al : Nat → PS → PR} {r : PS → PR} {rc : St → Option St} {cl : Nat → Int32 → St → Option St} {go : PS → Option Int32} {b : Bool} (h0 : ∀ s, al 0 s = .inr s) (hs : ∀ k s, al (k + 1) s = match go s with
    | none => .inr s
    | some v => bnR (r (stp T n s)) (fun s' => al k (lay v s'))) (hg : ∀ s v, go s = some v → s.1 < n ∧ ¬ -10 < v ∧ ∀ st, tyS v (b :: b :: st) = some (b :: st)) (hr : ∀ s s', s.1 ≤ n → s.2.1 ≤ 80 → r s = .inr s' → OkR n b s s') (hc : ∀ s σ, GdR n s → CR T n K Ln σ0 σ s → ∃ σ', rc σ = some σ' ∧ CX T n K Ln σ0 (r s) σ')
    (c1 : ∀ F x σ s, CR T n K Ln σ0 σ s → ¬ (400 : Int32) ≤ x → cl (F + 1) x σ = match go s with
      | none => some σ
      | some v => (f_X4_advance σ).bind fun σ1 => (rc σ1).bind fun σ2 => (f_X2_emit v σ2).bind fun σ3 => cl F (x + 1) σ3)
    (c2 : ∀ F x σ, ((400 : Int32) ≤ x ∨ ¬ gF σ 509 = 0) → cl (F + 1) x σ = some σ) :
    ∀ (k F : Nat) (s0 s : PS) (σ : St), k ≤ 400 → k < F → GdR n s0 → OkR n b s0 s → CR T n K Ln σ0 σ s → ∃ σ', cl F (nI (400 - k)) σ = some σ' ∧ CX T n K Ln σ0 (al k s) σ' := by
  intro k
  induction k with
  | zero =>
    intro F s0 s σ hk hF g0 o h
    obtain ⟨F, rfl⟩ : ∃ q, F = q + 1 := ⟨F - 1, by omega⟩
    rw [h0]
    exact ⟨σ, c2 F _ σ (Or.inl (by decide)), h⟩
  | succ k ih =>
    intro F s0 s σ hk hF g0 o h
    obtain ⟨F, rfl⟩ : ∃ q, F = q + 1 := ⟨F - 1, by omega⟩
    have hx : ¬ (400 : Int32) ≤ nI (400 - (k + 1)) := by rw [show (400 : Int32) = nI 400 from rfl, nI_leE (by omega) (by omega)]; omega
    rw [hs, c1 F _ σ s h hx]
    cases g : go s with
    | none => exact ⟨σ, rfl, h⟩
    | some v =>
      obtain ⟨g1, g2, g3⟩ := hg s v g
      have gs := o.gd g0
      have nb := nx_b (T := T) (n := n) (p := s.1) (by omega)
      have n4 := h.1.1
      obtain ⟨σ1, a1, a2⟩ := h.adv
      obtain ⟨σ2, b1, b2⟩ := hc (stp T n s) σ1 ⟨nb.1, Nat.le_trans gs.2.1 nb.2.1, gs.2.2⟩ a2
      show ∃ σ', ((f_X4_advance σ).bind fun σ1 => (rc σ1).bind fun σ2 => (f_X2_emit v σ2).bind fun σ3 => cl F (nI (400 - (k + 1)) + 1) σ3) = some σ' ∧ CX T n K Ln σ0 (bnR (r (stp T n s)) (fun s' => al k (lay v s'))) σ'
      rw [a1, bS, b1, bS, show nI (400 - (k + 1)) + 1 = nI (400 - k) by rw [show nI (400 - (k + 1)) + 1 = nI (400 - (k + 1) + 1) from nI_add _ 1]; congr 1; omega]
      cases e : r (stp T n s) with
      | inl f =>
        rw [e] at b2
        obtain ⟨σ3, d1, d2⟩ := CF.emit b2 hL v
        obtain ⟨F', rfl⟩ : ∃ q, F = q + 1 := ⟨F - 1, by omega⟩
        exact ⟨σ3, by rw [d1, bS]; exact c2 F' _ σ3 (Or.inr d2.ne), d2⟩
      | inr s' =>
        rw [e] at b2
        have o2 := hr (stp T n s) s' nb.1 gs.2.2 e
        have o3 : OkR n b s0 (lay v s') := o.join (s1 := stp T n s) (nb.2.2 g1) (Nat.le_refl _) rfl o2 g2 g3
        have gl := o3.gd g0
        have l1 : (s'.2.2 ++ [v]).length ≤ n := Nat.le_trans gl.2.1 gl.1
        rw [List.length_append] at l1
        have l1 : s'.2.2.length + 1 ≤ n := l1
        obtain ⟨σ3, d1, d2⟩ := CR.emit b2 (by omega) hL v
        rw [d1, bS]
        exact ih F s0 (lay v s') σ3 (by omega) (by omega) g0 o3 d2
end CS
