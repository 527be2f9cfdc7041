/-! the class's game -/
def GS (w h ff lf : Nat) (σ : St) : Prop := (σ.1 600 = nI w ∧ σ.1 601 = nI (w * h) ∧ σ.1 602 = nI ff ∧ σ.1 603 = nI lf ∧ σ.1 604 = ((1 : Int32) <<< (nI (w * h) &&& 31)) - 1) ∧ (∀ i, i < 32 → bt (σ.1 605) i = decide (i < w * h ∧ 0 < i % w)) ∧ (∀ i, i < 32 → bt (σ.1 606) i = decide (i < w * h ∧ i % w + 1 < w)) ∧ ∀ f, (f < w * h ∨ f = 25) → ∀ i, i < 5 → σ.2.1 46 (5 * f + i) = oI (fnb w h f i)
theorem GS.fr {w h ff lf : Nat} {σ σ' : St} (g : GS w h ff lf σ) {As : List Nat} (hF : Fr [] As [] σ σ') (hA : 46 ∉ As) : GS w h ff lf σ' := by
  obtain ⟨⟨g1, g2, g3, g4, g5⟩, g6, g7, g8⟩ := g
  have e : ∀ k, σ'.1 k = σ.1 k := fun k => hF.1 k (by simp)
  refine ⟨⟨(e _).trans g1, (e _).trans g2, (e _).trans g3, (e _).trans g4, (e _).trans g5⟩, ?_, ?_, ?_⟩
  · rw [e 605]; exact g6
  · rw [e 606]; exact g7
  · rw [hF.2.1 46 hA]; exact g8
section PL
variable {w h ff lf : Nat} {σ : St}
def Rg (w h ff lf : Nat) : Prop := (ff = 0 ∧ lf = w * h - 1) ∨ (ff = 25 ∧ lf = 25)
theorem Rg.in {f : Nat} (r : Rg w h ff lf) (hw : 1 ≤ w ∧ w ≤ 5) (hh : 1 ≤ h ∧ h ≤ 5) (h1 : ff ≤ f) (h2 : f ≤ lf) : f < w * h ∨ f = 25 := by
  have : 1 ≤ w * h := Nat.mul_le_mul hw.1 hh.1
  rcases r with ⟨a, b⟩ | ⟨a, b⟩ <;> omega
theorem Rg.nb {f e i : Nat} (r : Rg w h ff lf) (hw : 1 ≤ w ∧ w ≤ 5) (hh : 1 ≤ h ∧ h ≤ 5) (h1 : ff ≤ f) (h2 : f ≤ lf) (he : fnb w h f i = some e) : ff ≤ e ∧ e ≤ lf := by
  have h3 : 1 ≤ w * h := Nat.mul_le_mul hw.1 hh.1
  unfold fnb at he
  rcases r with ⟨a, b⟩ | ⟨a, b⟩
  · have hf : f < w * h := by omega
    have := (box_lt hw hh hf).1
    rw [if_neg (by omega)] at he
    have := nbr_lt hw hh hf he
    omega
  · rw [if_pos (by omega)] at he
    split at he
    · cases he; omega
    · cases he
def Bt5 (n : Nat) (v : Int32) (g : Nat → Bool) : Prop := ∀ t, t < 32 → bt v t = (decide (t < n) && g t)
theorem beginC (hw : 1 ≤ w ∧ w ≤ 5) (hh : 1 ≤ h ∧ h ≤ 5) (r : Rg w h ff lf) (g : GS w h ff lf σ) : ∃ A', f_X1_beginRows σ = some (stA σ 47 A') ∧ ∀ f x, ff ≤ f → f ≤ lf → x < w * h → Bt5 (w * h) (A' (25 * f + x)) (gW w h 0 f x) := by
  have hn : w * h ≤ 25 := Nat.mul_le_mul hw.2 hh.2
  have h3 : 1 ≤ w * h := Nat.mul_le_mul hw.1 hh.1
  have hlf : lf ≤ 25 := by rcases r with ⟨a, b⟩ | ⟨a, b⟩ <;> omega
  have hfl : ff ≤ lf + 1 := by rcases r with ⟨a, b⟩ | ⟨a, b⟩ <;> omega
  obtain ⟨⟨g1, g2, g3, g4, g5⟩, g6, g7, g8⟩ := g
  obtain ⟨A', z1, z2⟩ := dbl (a := 47) (σ := σ) (n := w * h) (ff := ff) (lf := lf) (Pp := fun f x v => Bt5 (w * h) v (gW w h 0 f x)) hn hlf hfl f_X1_beginRows_15 f_X1_beginRows_5
    (fun f k5 m A => by
      unfold f_X1_beginRows_15 f_X1_beginRows_43
      rw [if_pos (by show σ.1 601 ≤ _; rw [g2]; exact nI_le (Nat.le_refl _) (by omega)), bndE, nI_1])
    (fun f k5 m x A c1 c2 c3 => by
      refine ⟨(1 : Int32) <<< (nI x &&& 31), fun t ht => ?_, ?_⟩
      · rw [b_one (by omega) ht]
        show _ = (decide (t < w * h) && decide (t = x))
        by_cases e : t = x
        · rw [decide_eq_true e, decide_eq_true (show t < w * h by omega)]; rfl
        · rw [decide_eq_false e, Bool.and_false]
      · have i1 : nI f * 25 + nI x = nI (25 * f + x) := ixd 25 f x
        rw [f_X1_beginRows_15]
        rw [if_neg (by show ¬ σ.1 601 ≤ _; rw [g2]; exact nI_ge (by omega) (by omega)), i1, wrC_47 (by omega), bS, bndE, nI_1, sA_st, stA_at, stA_2])
    (fun m A => by
      unfold f_X1_beginRows_5
      rw [if_pos (by show σ.1 603 < _; rw [g4]; exact nI_lt (by omega) (by omega))])
    (fun m f A c => by
      rw [f_X1_beginRows_5]
      rw [if_neg (by show ¬ σ.1 603 < _; rw [g4]; exact nI_nlt (by omega) (by omega))]) (σ.2.1 47)
  refine ⟨A', ?_, z2⟩
  unfold f_X1_beginRows
  rw [show gF σ 602 = _ from g3, bndE]
  rw [stA_same] at z1
  exact z1
theorem trawC (hw : 1 ≤ w ∧ w ≤ 5) (hh : 1 ≤ h ∧ h ≤ 5) (r : Rg w h ff lf) (g : GS w h ff lf σ) {W : Nat → Nat → Nat → Bool} (hW : ∀ f x, ff ≤ f → f ≤ lf → x < w * h → Bt5 (w * h) (σ.2.1 47 (25 * f + x)) (W f x)) : ∃ A', f_X1_moveTrawler σ = some (stA σ 49 A') ∧ ∀ f x, ff ≤ f → f ≤ lf → x < w * h → Bt5 (w * h) (A' (25 * f + x)) (gT w h W f x) := by
  have hn : w * h ≤ 25 := Nat.mul_le_mul hw.2 hh.2
  have h3 : 1 ≤ w * h := Nat.mul_le_mul hw.1 hh.1
  have hlf : lf ≤ 25 := by rcases r with ⟨a, b⟩ | ⟨a, b⟩ <;> omega
  have hfl : ff ≤ lf + 1 := by rcases r with ⟨a, b⟩ | ⟨a, b⟩ <;> omega
  obtain ⟨⟨g1, g2, g3, g4, g5⟩, g6, g7, g8⟩ := g
  obtain ⟨A', z1, z2⟩ := dbl (a := 49) (σ := σ) (n := w * h) (ff := ff) (lf := lf) (Pp := fun f x v => Bt5 (w * h) v (gT w h W f x)) hn hlf hfl f_X1_moveTrawler_15 f_X1_moveTrawler_5
    (fun f k5 m A => by
      unfold f_X1_moveTrawler_15 f_X1_moveTrawler_103
      rw [if_pos (by show σ.1 601 ≤ _; rw [g2]; exact nI_le (Nat.le_refl _) (by omega)), bndE, nI_1])
    (fun f k5 m x A c1 c2 c3 => by
      have i1 : nI f * 25 + nI x = nI (25 * f + x) := ixd 25 f x
      have rdw : rd tC (stA σ 49 A) 47 (nI (25 * f + x)) = some (σ.2.1 47 (25 * f + x)) := by rw [rdC_47 (by omega)]; rfl
      have e1 : gF (stA σ 49 A) 600 = nI w := g1
      have e4 : gF (stA σ 49 A) 604 = ((1 : Int32) <<< (nI (w * h) &&& 31)) - 1 := g5
      have e5 : gF (stA σ 49 A) 605 = σ.1 605 := rfl
      have e6 : gF (stA σ 49 A) 606 = σ.1 606 := rfl
      have hb := hW f x c1 c2 c3
      generalize hv0 : σ.2.1 47 (25 * f + x) = v0 at *
      generalize hal : ((1 : Int32) <<< (nI (w * h) &&& 31)) - 1 = al at *
      have bal : ∀ i, i < 32 → bt al i = decide (i < w * h) := by rw [← hal]; exact b_all (w * h) (by omega)
      generalize hfr : al &&& (v0 ^^^ (-1)) = fr
      have bfr : ∀ d, bt fr d = (decide (d < w * h) && !W f x d) := by
        intro d
        by_cases hd : d < 32
        · rw [← hfr, b_and, bal d hd, b_not _ hd, hb d hd]
          cases decide (d < w * h) <;> cases W f x d <;> rfl
        · rw [b_big (by omega), decide_eq_false (show ¬ d < w * h by omega), Bool.false_and]
      refine ⟨al &&& ((((((fr ||| (fr <<< (nI w &&& 31))) ||| (ushr fr (nI w))) ||| ((fr &&& σ.1 606) <<< (1 &&& 31))) ||| (ushr (fr &&& σ.1 605) 1))) ^^^ (-1)), fun t ht => ?_, ?_⟩
      · rw [b_and, bal t ht, b_not _ ht, b_or, b_or, b_or, b_or]
        by_cases c : t < w * h
        · rw [decide_eq_true c, Bool.true_and, Bool.true_and, b_shl w (by omega) fr ht, b_ush fr (by omega), show bt ((fr &&& σ.1 606) <<< (1 &&& 31)) t = _ from b_shl 1 (by decide) (fr &&& σ.1 606) ht, show bt (ushr (fr &&& σ.1 605) 1) t = _ from b_ush (n := 1) (fr &&& σ.1 605) (by decide) t, b_and, b_and, g6 (1 + t) (by omega), g7 (t - 1) (by omega)]
          rw [nbr_any hw hh c (fun d => bt fr d) (fun d hd => by rw [bfr, decide_eq_false (by omega)]; rfl), Bool.not_not]
          unfold gT
          apply Bool.eq_iff_iff.mpr
          rw [al5_iff, al5_iff]
          constructor
          · intro q i hi
            have := q i hi
            cases e : nbr w h t i with
            | none => rfl
            | some d =>
              rw [e] at this
              have this : (!bt fr d) = true := this
              rw [bfr, decide_eq_true (nbr_lt hw hh c e)] at this
              show W f x d = true
              simpa using this
          · intro q i hi
            have := q i hi
            cases e : nbr w h t i with
            | none => rfl
            | some d =>
              rw [e] at this
              have this : W f x d = true := this
              show (!bt fr d) = true
              rw [bfr, this]
              simp
        · rw [decide_eq_false c, Bool.false_and, Bool.false_and]
      · rw [f_X1_moveTrawler_15]
        rw [if_neg (by show ¬ σ.1 601 ≤ _; rw [g2]; exact nI_ge (by omega) (by omega)), i1, rdw, bS, e1, e4, e5, e6, bndE, hfr, bndE, wrC_49 (by omega), bS, bndE, nI_1, sA_st, stA_at, stA_2])
    (fun m A => by
      unfold f_X1_moveTrawler_5
      rw [if_pos (by show σ.1 603 < _; rw [g4]; exact nI_lt (by omega) (by omega))])
    (fun m f A c => by
      rw [f_X1_moveTrawler_5]
      rw [if_neg (by show ¬ σ.1 603 < _; rw [g4]; exact nI_nlt (by omega) (by omega))]) (σ.2.1 49)
  refine ⟨A', ?_, z2⟩
  unfold f_X1_moveTrawler
  rw [show gF σ 602 = _ from g3, bndE]
  rw [stA_same] at z1
  exact z1
def aF (q : Nat → Bool) : Nat → Nat → Bool
  | 0, _ => true
  | k + 1, i => q i && aF q k (i + 1)
def oF (q : Nat → Bool) : Nat → Nat → Bool
  | 0, _ => false
  | k + 1, i => q i || oF q k (i + 1)
theorem aF5 (q : Nat → Bool) : aF q 5 0 = al5 q := by
  show (q 0 && (q 1 && (q 2 && (q 3 && (q 4 && true))))) = (q 0 && q 1 && q 2 && q 3 && q 4)
  cases q 0 <;> cases q 1 <;> cases q 2 <;> cases q 3 <;> cases q 4 <;> rfl
theorem oF5 (q : Nat → Bool) : oF q 5 0 = an5 q := by
  show (q 0 || (q 1 || (q 2 || (q 3 || (q 4 || false))))) = (q 0 || q 1 || q 2 || q 3 || q 4)
  cases q 0 <;> cases q 1 <;> cases q 2 <;> cases q 3 <;> cases q 4 <;> rfl
theorem frig_in (hw : 1 ≤ w ∧ w ≤ 5) (hh : 1 ≤ h ∧ h ≤ 5) (r : Rg w h ff lf) (g : GS w h ff lf σ) {T : Nat → Nat → Nat → Bool} (hT : ∀ f x, ff ≤ f → f ≤ lf → x < w * h → Bt5 (w * h) (σ.2.1 49 (25 * f + x)) (T f x)) {f x : Nat} (c1 : ff ≤ f) (c2 : f ≤ lf) (c3 : x < w * h) {k15 k5 : Int32 → St → Option St} :
    ∀ (k i m : Nat) (acc : Int32), i + k = 5 → k < m → ∃ acc', f_X1_moveFrigate_31 (nI f) (nI x) σ k15 k5 m acc (nI i) = f_X1_moveFrigate_93 (nI f) (nI x) acc' σ k15 k5 ∧ ∀ t, t < 32 → (t < w * h → bt acc' t = (bt acc t && aF (fun j => tO (fun e => decide (e = x) || T e x t) (fnb w h f j)) k i)) ∧ (bt acc t = false → bt acc' t = false) := by
  have hn : w * h ≤ 25 := Nat.mul_le_mul hw.2 hh.2
  have h3 : 1 ≤ w * h := Nat.mul_le_mul hw.1 hh.1
  have hlf : lf ≤ 25 := by rcases r with ⟨a, b⟩ | ⟨a, b⟩ <;> omega
  obtain ⟨⟨g1, g2, g3, g4, g5⟩, g6, g7, g8⟩ := g
  have hfc := r.in hw hh c1 c2
  intro k
  induction k with
  | zero =>
    intro i m acc e1 e2
    obtain ⟨m, rfl⟩ : ∃ q, m = q + 1 := ⟨m - 1, by omega⟩
    have : i = 5 := by omega
    subst this
    refine ⟨acc, ?_, fun t ht => ⟨fun _ => by show _ = (bt acc t && true); rw [Bool.and_true], fun z => z⟩⟩
    unfold f_X1_moveFrigate_31
    rw [if_pos (show (5 : Int32) ≤ nI 5 from nI_le (a := 5) (Nat.le_refl _) (by decide))]
  | succ k ih =>
    intro i m acc e1 e2
    obtain ⟨m, rfl⟩ : ∃ q, m = q + 1 := ⟨m - 1, by omega⟩
    have i1 : nI f * 5 + nI i = nI (5 * f + i) := ixd 5 f i
    have h5 : ¬ (5 : Int32) ≤ nI i := nI_ge (b := 5) (by omega) (by decide)
    have v := g8 f hfc i (by omega)
    have haF : ∀ t, aF (fun j => tO (fun e => decide (e = x) || T e x t) (fnb w h f j)) (k + 1) i = (tO (fun e => decide (e = x) || T e x t) (fnb w h f i) && aF (fun j => tO (fun e => decide (e = x) || T e x t) (fnb w h f j)) k (i + 1)) := fun t => rfl
    unfold f_X1_moveFrigate_31 f_X1_moveFrigate_87
    simp only [bndE]
    rw [if_neg h5, i1, rdC_46 (by omega), bS, v, nI_1]
    have skip : (∀ t, t < w * h → tO (fun e => decide (e = x) || T e x t) (fnb w h f i) = true) → ∃ acc', f_X1_moveFrigate_31 (nI f) (nI x) σ k15 k5 m acc (nI (i + 1)) = f_X1_moveFrigate_93 (nI f) (nI x) acc' σ k15 k5 ∧ ∀ t, t < 32 → (t < w * h → bt acc' t = (bt acc t && aF (fun j => tO (fun e => decide (e = x) || T e x t) (fnb w h f j)) (k + 1) i)) ∧ (bt acc t = false → bt acc' t = false) := by
      intro hs
      obtain ⟨acc', z1, z2⟩ := ih (i + 1) m acc (by omega) (by omega)
      refine ⟨acc', z1, fun t ht => ⟨fun q => ?_, (z2 t ht).2⟩⟩
      rw [haF, hs t q, Bool.true_and]
      exact (z2 t ht).1 q
    cases e : fnb w h f i with
    | none =>
      rw [if_neg (show ¬ oI none = nI x from fun z => by have := congrArg Int32.toInt z; rw [nI_toInt (by omega)] at this; have this : (-1 : Int) = x := this; omega), if_pos (by rw [lies0]; show ¬ (_ ≤ (-1 : Int) ∧ _); rw [show gF σ 602 = _ from g3, nI_toInt (by rcases r with ⟨a, b⟩ | ⟨a, b⟩ <;> omega)]; omega)]
      exact skip (fun t _ => by rw [e]; rfl)
    | some d =>
      have hd := r.nb hw hh c1 c2 e
      have ed := nI_toInt (show d < 2 ^ 31 by omega)
      by_cases dx : d = x
      · rw [if_pos (show oI (some d) = nI x by show nI d = nI x; rw [dx])]
        exact skip (fun t _ => by rw [e]; show (decide (d = x) || _) = true; rw [decide_eq_true dx, Bool.true_or])
      · rw [if_neg (show ¬ oI (some d) = nI x by show ¬ nI d = nI x; rw [nI_eqE (by omega) (by omega)]; exact dx), if_neg (by rw [lies0]; show ¬ ¬ (_ ≤ (nI d).toInt ∧ (nI d).toInt ≤ _); rw [show gF σ 602 = _ from g3, show gF σ 603 = _ from g4, ed, nI_toInt (by omega), nI_toInt (by omega)]; omega)]
        have i2 : oI (some d) * 25 + nI x = nI (25 * d + x) := ixd 25 d x
        rw [i2, rdC_49 (by omega), bS]
        obtain ⟨acc', z1, z2⟩ := ih (i + 1) m (acc &&& σ.2.1 49 (25 * d + x)) (by omega) (by omega)
        refine ⟨acc', z1, fun t ht => ⟨fun q => ?_, fun q => (z2 t ht).2 (by rw [b_and, q, Bool.false_and])⟩⟩
        rw [(z2 t ht).1 q, haF, b_and, hT d x hd.1 hd.2 c3 t ht, decide_eq_true q, e]
        show _ = (bt acc t && ((decide (d = x) || T d x t) && _))
        rw [decide_eq_false dx, Bool.false_or, Bool.true_and, Bool.and_assoc]
theorem frigC (hw : 1 ≤ w ∧ w ≤ 5) (hh : 1 ≤ h ∧ h ≤ 5) (r : Rg w h ff lf) (g : GS w h ff lf σ) {W : Nat → Nat → Nat → Bool} (hT : ∀ f x, ff ≤ f → f ≤ lf → x < w * h → Bt5 (w * h) (σ.2.1 49 (25 * f + x)) (gT w h W f x)) : ∃ A', f_X1_moveFrigate σ = some (stA σ 48 A') ∧ ∀ f x, ff ≤ f → f ≤ lf → x < w * h → Bt5 (w * h) (A' (25 * f + x)) (gFr w h W f x) := by
  have hn : w * h ≤ 25 := Nat.mul_le_mul hw.2 hh.2
  have h3 : 1 ≤ w * h := Nat.mul_le_mul hw.1 hh.1
  have hlf : lf ≤ 25 := by rcases r with ⟨a, b⟩ | ⟨a, b⟩ <;> omega
  have hfl : ff ≤ lf + 1 := by rcases r with ⟨a, b⟩ | ⟨a, b⟩ <;> omega
  have g' := g
  obtain ⟨⟨g1, g2, g3, g4, g5⟩, g6, g7, g8⟩ := g
  obtain ⟨A', z1, z2⟩ := dbl (a := 48) (σ := σ) (n := w * h) (ff := ff) (lf := lf) (Pp := fun f x v => Bt5 (w * h) v (gFr w h W f x)) hn hlf hfl f_X1_moveFrigate_15 f_X1_moveFrigate_5
    (fun f k5 m A => by
      unfold f_X1_moveFrigate_15 f_X1_moveFrigate_115
      rw [if_pos (by show σ.1 601 ≤ _; rw [g2]; exact nI_le (Nat.le_refl _) (by omega)), bndE, nI_1])
    (fun f k5 m x A c1 c2 c3 => by
      have i1 : nI f * 25 + nI x = nI (25 * f + x) := ixd 25 f x
      obtain ⟨acc, y1, y2⟩ := frig_in (σ := stA σ 48 A) (T := gT w h W) hw hh r (g'.fr (Fr.rf.wSA (k := 48) (As := [48]) (by decide)) (by decide)) hT c1 c2 c3 (k15 := f_X1_moveFrigate_15 (nI f) k5 m) (k5 := k5) 5 0 FU (((1 : Int32) <<< (nI (w * h) &&& 31)) - 1) (by omega) (by unfold FU; omega)
      refine ⟨acc ||| ((1 : Int32) <<< (nI x &&& 31)), fun t ht => ?_, ?_⟩
      · rw [b_or, b_one (by omega) ht]
        unfold gFr
        by_cases c : t < w * h
        · rw [(y2 t ht).1 c, b_all _ (by omega) t ht, decide_eq_true c, Bool.true_and, Bool.true_and, aF5, Bool.or_comm]
        · rw [(y2 t ht).2 (by rw [b_all _ (by omega) t ht]; exact decide_eq_false c), decide_eq_false c, decide_eq_false (show ¬ t = x by omega), Bool.false_and]
          rfl
      · rw [f_X1_moveFrigate_15]
        rw [if_neg (by show ¬ σ.1 601 ≤ _; rw [g2]; exact nI_ge (by omega) (by omega)), bndE, show gF (stA σ 48 A) 604 = _ from g5]
        refine y1.trans ?_
        unfold f_X1_moveFrigate_93
        rw [i1, wrC_48 (by omega), bS, bndE, nI_1, sA_st, stA_at, stA_2])
    (fun m A => by
      unfold f_X1_moveFrigate_5
      rw [if_pos (by show σ.1 603 < _; rw [g4]; exact nI_lt (by omega) (by omega))])
    (fun m f A c => by
      rw [f_X1_moveFrigate_5]
      rw [if_neg (by show ¬ σ.1 603 < _; rw [g4]; exact nI_nlt (by omega) (by omega))]) (σ.2.1 48)
  refine ⟨A', ?_, z2⟩
  unfold f_X1_moveFrigate
  rw [show gF σ 602 = _ from g3, bndE]
  rw [stA_same] at z1
  exact z1
end PL
