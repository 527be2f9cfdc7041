/-! the class's game: warder, first move, the box -/
section P2
variable {w h ff lf : Nat} {σ : St}
theorem fnb_nbr {c i : Nat} (hw : 1 ≤ w ∧ w ≤ 5) (hh : 1 ≤ h ∧ h ≤ 5) (hc : c < w * h) : fnb w h c i = nbr w h c i := by
  unfold fnb
  rw [if_neg (by have := (box_lt hw hh hc).1; omega)]
theorem ward_in (hw : 1 ≤ w ∧ w ≤ 5) (hh : 1 ≤ h ∧ h ≤ 5) (r : Rg w h ff lf) (g : GS w h ff lf σ) {T : Nat → Nat → Nat → Bool} (hT : ∀ f x, ff ≤ f → f ≤ lf → x < w * h → Bt5 (w * h) (σ.2.1 48 (25 * f + x)) (T f x)) {f x : Nat} (c1 : ff ≤ f) (c2 : f ≤ lf) (c3 : x < w * h) {k15 k5 : Int32 → St → Option St} :
    ∀ (k i m : Nat) (acc : Int32), i + k = 5 → k < m → ∃ acc', f_X1_moveWarder_30 (nI f) (nI x) σ k15 k5 m acc (nI i) = f_X1_moveWarder_91 (nI f) (nI x) acc' σ k15 k5 ∧ ∀ t, t < 32 → bt acc' t = (bt acc t || oF (fun j => !tO (fun d => !(!decide (d = f) && (decide (t < w * h) && T f d t))) (nbr w h x j)) k i) := by
  have hn : w * h ≤ 25 := Nat.mul_le_mul hw.2 hh.2
  have h3 : 1 ≤ w * h := Nat.mul_le_mul hw.1 hh.1
  have hlf : lf ≤ 25 := by rcases r with ⟨a, b⟩ | ⟨a, b⟩ <;> omega
  obtain ⟨⟨g1, g2, g3, g4, g5⟩, g6, g7, g8⟩ := g
  intro k
  induction k with
  | zero =>
    intro i m acc e1 e2
    obtain ⟨m, rfl⟩ : ∃ q, m = q + 1 := ⟨m - 1, by omega⟩
    have : i = 5 := by omega
    subst this
    refine ⟨acc, ?_, fun t ht => by show _ = (bt acc t || false); rw [Bool.or_false]⟩
    unfold f_X1_moveWarder_30
    rw [if_pos (show (5 : Int32) ≤ nI 5 from nI_le (a := 5) (Nat.le_refl _) (by decide))]
  | succ k ih =>
    intro i m acc e1 e2
    obtain ⟨m, rfl⟩ : ∃ q, m = q + 1 := ⟨m - 1, by omega⟩
    have i1 : nI x * 5 + nI i = nI (5 * x + i) := ixd 5 x i
    have h5 : ¬ (5 : Int32) ≤ nI i := nI_ge (b := 5) (by omega) (by decide)
    have v := g8 x (Or.inl c3) i (by omega)
    rw [fnb_nbr hw hh c3] at v
    have hoF : ∀ t, oF (fun j => !tO (fun d => !(!decide (d = f) && (decide (t < w * h) && T f d t))) (nbr w h x j)) (k + 1) i = (!tO (fun d => !(!decide (d = f) && (decide (t < w * h) && T f d t))) (nbr w h x i) || oF (fun j => !tO (fun d => !(!decide (d = f) && (decide (t < w * h) && T f d t))) (nbr w h x j)) k (i + 1)) := fun t => rfl
    have en : (nI (w * h) - 1 : Int32).toInt = (w * h : Nat) - 1 := by rw [nIs _ h3, nI_toInt (by omega)]; omega
    unfold f_X1_moveWarder_30 f_X1_moveWarder_85
    simp only [bndE]
    rw [if_neg h5, i1, rdC_46 (by omega), bS, v, nI_1]
    have skip : (∀ t, (!tO (fun d => !(!decide (d = f) && (decide (t < w * h) && T f d t))) (nbr w h x i)) = false) → ∃ acc', f_X1_moveWarder_30 (nI f) (nI x) σ k15 k5 m acc (nI (i + 1)) = f_X1_moveWarder_91 (nI f) (nI x) acc' σ k15 k5 ∧ ∀ t, t < 32 → bt acc' t = (bt acc t || oF (fun j => !tO (fun d => !(!decide (d = f) && (decide (t < w * h) && T f d t))) (nbr w h x j)) (k + 1) i) := by
      intro hs
      obtain ⟨acc', z1, z2⟩ := ih (i + 1) m acc (by omega) (by omega)
      refine ⟨acc', z1, fun t ht => ?_⟩
      rw [hoF, hs t, Bool.false_or]
      exact z2 t ht
    cases e : nbr w h x i with
    | none =>
      rw [if_neg (show ¬ oI none = nI f from fun z => by have := congrArg Int32.toInt z; rw [nI_toInt (by omega)] at this; have this : (-1 : Int) = f := this; omega), if_pos (by rw [lies0]; show ¬ ((0 : Int) ≤ (-1 : Int) ∧ _); omega)]
      exact skip (fun t => by rw [e]; rfl)
    | some d =>
      have hd := nbr_lt hw hh c3 e
      have ed := nI_toInt (show d < 2 ^ 31 by omega)
      by_cases dx : d = f
      · rw [if_pos (show oI (some d) = nI f by show nI d = nI f; rw [dx])]
        exact skip (fun t => by rw [e]; show (!!(!decide (d = f) && _)) = false; rw [decide_eq_true dx]; rfl)
      · rw [if_neg (show ¬ oI (some d) = nI f by show ¬ nI d = nI f; rw [nI_eqE (by omega) (by omega)]; exact dx), if_neg (by rw [lies0, show gF σ 601 = _ from g2, en]; show ¬ ¬ ((0 : Int) ≤ (nI d).toInt ∧ (nI d).toInt ≤ _); rw [ed]; omega)]
        have i2 : nI f * 25 + oI (some d) = nI (25 * f + d) := ixd 25 f d
        rw [i2, rdC_48 (by omega), bS]
        obtain ⟨acc', z1, z2⟩ := ih (i + 1) m (acc ||| σ.2.1 48 (25 * f + d)) (by omega) (by omega)
        refine ⟨acc', z1, fun t ht => ?_⟩
        rw [z2 t ht, hoF, b_or, hT f d c1 c2 hd t ht, e]
        show _ = (bt acc t || (!!(!decide (d = f) && (decide (t < w * h) && T f d t)) || _))
        rw [decide_eq_false dx, Bool.not_not, Bool.not_false, Bool.true_and, Bool.or_assoc]
theorem wardC (hw : 1 ≤ w ∧ w ≤ 5) (hh : 1 ≤ h ∧ h ≤ 5) (r : Rg w h ff lf) (g : GS w h ff lf σ) {m0 : Nat} (hT : ∀ f x, ff ≤ f → f ≤ lf → x < w * h → Bt5 (w * h) (σ.2.1 48 (25 * f + x)) (gFr w h (gW w h m0) f x)) : ∃ A', f_X1_moveWarder σ = some (stA σ 47 A') ∧ ∀ f x, ff ≤ f → f ≤ lf → x < w * h → Bt5 (w * h) (A' (25 * f + x)) (gW w h (m0 + 1) f x) := by
  have hn : w * h ≤ 25 := Nat.mul_le_mul hw.2 hh.2
  have h3 : 1 ≤ w * h := Nat.mul_le_mul hw.1 hh.1
  have hlf : lf ≤ 25 := by rcases r with ⟨a, b⟩ | ⟨a, b⟩ <;> omega
  have hfl : ff ≤ lf + 1 := by rcases r with ⟨a, b⟩ | ⟨a, b⟩ <;> omega
  have g' := g
  obtain ⟨⟨g1, g2, g3, g4, g5⟩, g6, g7, g8⟩ := g
  obtain ⟨A', z1, z2⟩ := dbl (a := 47) (σ := σ) (n := w * h) (ff := ff) (lf := lf) (Pp := fun f x v => Bt5 (w * h) v (gW w h (m0 + 1) f x)) hn hlf hfl f_X1_moveWarder_15 f_X1_moveWarder_5
    (fun f k5 m A => by
      unfold f_X1_moveWarder_15 f_X1_moveWarder_109
      rw [if_pos (by show σ.1 601 ≤ _; rw [g2]; exact nI_le (Nat.le_refl _) (by omega)), bndE, nI_1])
    (fun f k5 m x A c1 c2 c3 => by
      have i1 : nI f * 25 + nI x = nI (25 * f + x) := ixd 25 f x
      obtain ⟨acc, y1, y2⟩ := ward_in (σ := stA σ 47 A) (T := gFr w h (gW w h m0)) hw hh r (g'.fr (Fr.rf.wSA (k := 47) (As := [47]) (by decide)) (by decide)) hT c1 c2 c3 (k15 := f_X1_moveWarder_15 (nI f) k5 m) (k5 := k5) 5 0 FU ((1 : Int32) <<< (nI x &&& 31)) (by omega) (by unfold FU; omega)
      refine ⟨acc, fun t ht => ?_, ?_⟩
      · rw [y2 t ht, b_one (by omega) ht, oF5]
        show _ = (decide (t < w * h) && (decide (t = x) || gX w h (gW w h m0) f x t))
        by_cases c : t < w * h
        · rw [decide_eq_true c]
          simp only [Bool.true_and]
          rfl
        · rw [decide_eq_false c, decide_eq_false (show ¬ t = x by omega)]
          simp only [Bool.false_and, Bool.and_false, Bool.not_false, Bool.false_or]
          apply Bool.eq_false_iff.mpr
          rw [Ne, an5_iff]
          rintro ⟨i, hi, q⟩
          cases e : nbr w h x i with
          | none => rw [e] at q; cases q
          | some d => rw [e] at q; cases q
      · rw [f_X1_moveWarder_15]
        rw [if_neg (by show ¬ σ.1 601 ≤ _; rw [g2]; exact nI_ge (by omega) (by omega)), bndE]
        refine y1.trans ?_
        unfold f_X1_moveWarder_91
        rw [i1, wrC_47 (by omega), bS, bndE, nI_1, sA_st, stA_at, stA_2])
    (fun m A => by
      unfold f_X1_moveWarder_5
      rw [if_pos (by show σ.1 603 < _; rw [g4]; exact nI_lt (by omega) (by omega))])
    (fun m f A c => by
      rw [f_X1_moveWarder_5]
      rw [if_neg (by show ¬ σ.1 603 < _; rw [g4]; exact nI_nlt (by omega) (by omega))]) (σ.2.1 47)
  refine ⟨A', ?_, z2⟩
  unfold f_X1_moveWarder
  rw [show gF σ 602 = _ from g3, bndE]
  rw [stA_same] at z1
  exact z1
theorem hasC {a f x t : Nat} (ha : lnO tC σ a = 650) (hf : f ≤ 25) (hx : x < 25) (ht : t < 32) : f_X1_has a (nI x) (nI f) (nI t) σ = some (if bt (σ.2.1 a (25 * f + x)) t = true then 1 else 0) := by
  have i1 : nI f * 25 + nI x = nI (25 * f + x) := ixd 25 f x
  have el : (lenI tC σ a - 1 : Int32).toInt = 649 := by unfold lenI; rw [ha]; rfl
  unfold f_X1_has f_X1_has_37
  rw [i1, bndE, if_neg (by rw [lies0, el, nI_toInt (by omega)]; show ¬ ¬ ((0 : Int) ≤ _ ∧ _); omega), rdN rfl ha (by omega) (by decide), bS]
  by_cases c : bt (σ.2.1 a (25 * f + x)) t = true
  · rw [if_pos c, if_pos ((b_get _ ht).mpr c)]
  · rw [if_neg c, if_neg (fun z => c ((b_get _ ht).mp z))]
/-- r is the least step of the warder with which it is so -/
def LM (w h : Nat) (q : Nat → Bool) (f x : Nat) (r : Int32) : Prop := (r = -1 ∧ ∀ i d, i < 5 → nbr w h x i = some d → d ≠ f → q d = false) ∨ ∃ d, r = nI d ∧ d < 25 ∧ (∃ i, i < 5 ∧ nbr w h x i = some d) ∧ d ≠ f ∧ q d = true ∧ ∀ i d', i < 5 → nbr w h x i = some d' → d' ≠ f → q d' = true → d ≤ d'
theorem LM.uniq {q : Nat → Bool} {f x : Nat} {r s : Int32} (a : LM w h q f x r) (b : LM w h q f x s) : r = s := by
  rcases a with ⟨a1, a2⟩ | ⟨d, a1, -, ⟨i, hi, ei⟩, a2, a3, a4⟩ <;> rcases b with ⟨b1, b2⟩ | ⟨d', b1, -, ⟨j, hj, ej⟩, b2, b3, b4⟩
  · rw [a1, b1]
  · rw [a2 j d' hj ej b2] at b3; cases b3
  · rw [b2 i d hi ei a2] at a3; cases a3
  · have h1 := a4 j d' hj ej b2 b3
    have h2 := b4 i d hi ei a2 a3
    rw [a1, b1, show d = d' by omega]
theorem nbr_asc {c i j d d' : Nat} (hw : 1 ≤ w) (hij : i ≤ j) (e : nbr w h c i = some d) (e' : nbr w h c j = some d') : d ≤ d' := by
  have k : ∀ i d, nbr w h c i = some d → (i = 0 ∧ d = c - w ∧ 0 < c / w) ∨ (i = 1 ∧ d = c - 1 ∧ 0 < c % w) ∨ (i = 2 ∧ d = c) ∨ (i = 3 ∧ d = c + 1) ∨ (i = 4 ∧ d = c + w ∧ True) := by
    intro i d e
    unfold nbr at e
    split at e
    · split at e <;> cases e; exact Or.inl ⟨rfl, rfl, by assumption⟩
    · split at e <;> cases e; exact Or.inr (Or.inl ⟨rfl, rfl, by assumption⟩)
    · cases e; exact Or.inr (Or.inr (Or.inl ⟨rfl, rfl⟩))
    · split at e <;> cases e; exact Or.inr (Or.inr (Or.inr (Or.inl ⟨rfl, rfl⟩)))
    · split at e <;> cases e; exact Or.inr (Or.inr (Or.inr (Or.inr ⟨rfl, rfl, trivial⟩)))
    · cases e
  rcases k i d e with q | q | q | q | q <;> rcases k j d' e' with p | p | p | p | p <;> omega
theorem leastC (hw : 1 ≤ w ∧ w ≤ 5) (hh : 1 ≤ h ∧ h ≤ 5) (r : Rg w h ff lf) (g : GS w h ff lf σ) {T : Nat → Nat → Nat → Bool} (hT : ∀ f x, ff ≤ f → f ≤ lf → x < w * h → Bt5 (w * h) (σ.2.1 48 (25 * f + x)) (T f x)) {f x t : Nat} (c1 : ff ≤ f) (c2 : f ≤ lf) (c3 : x < w * h) (c4 : t < w * h) : ∃ q, f_X1_leastMove (nI t) (nI x) (nI f) σ = some q ∧ LM w h (fun d => T f d t) f x q := by
  have hn : w * h ≤ 25 := Nat.mul_le_mul hw.2 hh.2
  have hlf : lf ≤ 25 := by have h3 : 1 ≤ w * h := Nat.mul_le_mul hw.1 hh.1; rcases r with ⟨a, b⟩ | ⟨a, b⟩ <;> omega
  obtain ⟨⟨g1, g2, g3, g4, g5⟩, g6, g7, g8⟩ := g
  have loop : ∀ (k i m : Nat), i + k = 5 → k < m → (∀ j d, j < i → nbr w h x j = some d → d ≠ f → T f d t = false) → ∃ q, f_X1_leastMove_3 (nI t) (nI x) (nI f) σ m (nI i) = some q ∧ LM w h (fun d => T f d t) f x q := by
    intro k
    induction k with
    | zero =>
      intro i m e1 e2 hb
      obtain ⟨m, rfl⟩ : ∃ q, m = q + 1 := ⟨m - 1, by omega⟩
      have : i = 5 := by omega
      subst this
      refine ⟨-1, ?_, Or.inl ⟨rfl, fun j d hj => hb j d hj⟩⟩
      unfold f_X1_leastMove_3
      rw [if_pos (show (5 : Int32) ≤ nI 5 from nI_le (a := 5) (Nat.le_refl _) (by decide))]
    | succ k ih =>
      intro i m e1 e2 hb
      obtain ⟨m, rfl⟩ : ∃ q, m = q + 1 := ⟨m - 1, by omega⟩
      have i1 : nI x * 5 + nI i = nI (5 * x + i) := ixd 5 x i
      have h5 : ¬ (5 : Int32) ≤ nI i := nI_ge (b := 5) (by omega) (by decide)
      have v := g8 x (Or.inl c3) i (by omega)
      rw [fnb_nbr hw hh c3] at v
      have el : (130 - 1 : Int32).toInt = 129 := by decide
      unfold f_X1_leastMove_3
      rw [if_neg h5, i1, bndE, if_neg (by rw [lies0, el, nI_toInt (by omega)]; show ¬ ¬ ((0 : Int) ≤ _ ∧ _); omega), rdC_46 (by omega), bS, v]
      unfold f_X1_leastMove_44 f_X1_leastMove_75
      simp only [bndE]
      rw [nI_1]
      have skip : (∀ d, nbr w h x i = some d → d ≠ f → T f d t = false) → ∃ q, f_X1_leastMove_3 (nI t) (nI x) (nI f) σ m (nI (i + 1)) = some q ∧ LM w h (fun d => T f d t) f x q := by
        intro hs
        refine ih (i + 1) m (by omega) (by omega) (fun j d hj => ?_)
        by_cases z : j = i
        · subst z; exact hs d
        · exact hb j d (by omega)
      cases e : nbr w h x i with
      | none =>
        rw [if_pos (show oI none = -1 from rfl)]
        exact skip (fun d z => by rw [e] at z; cases z)
      | some d =>
        have hd := nbr_lt hw hh c3 e
        rw [if_neg (show ¬ oI (some d) = -1 from fun z => by have := congrArg Int32.toInt z; rw [show oI (some d) = nI d from rfl, nI_toInt (by omega)] at this; have this : (d : Int) = -1 := this; omega)]
        by_cases dx : d = f
        · rw [if_pos (show oI (some d) = nI f by show nI d = nI f; rw [dx])]
          exact skip (fun d' z q => by rw [e] at z; cases z; exact absurd dx q)
        · rw [if_neg (show ¬ oI (some d) = nI f by show ¬ nI d = nI f; rw [nI_eqE (by omega) (by omega)]; exact dx), show f_X1_has 48 (oI (some d)) (nI f) (nI t) σ = _ from hasC (a := 48) (x := d) rfl (by omega) (by omega) (by omega), bS, hT f d c1 c2 hd t (by omega), decide_eq_true c4, Bool.true_and]
          by_cases q : T f d t = true
          · rw [if_pos q, if_neg (by decide)]
            refine ⟨nI d, rfl, Or.inr ⟨d, rfl, by omega, ⟨i, by omega, e⟩, dx, q, fun j d' hj ej hf hq => ?_⟩⟩
            by_cases z : j < i
            · have hq : T f d' t = true := hq
              rw [hb j d' z ej hf] at hq; cases hq
            · exact nbr_asc hw.1 (by omega) e ej
          · rw [if_neg q, if_pos rfl]
            exact skip (fun d' z _ => by rw [e] at z; cases z; exact Bool.eq_false_iff.mpr q)
  exact loop 5 0 FU (by omega) (by unfold FU; omega) (fun j d hj => absurd hj (by omega))
end P2
