/-! the reference's game -/
def pi5 : Nat → Nat
  | 0 => 2
  | 1 => 3
  | 2 => 1
  | 3 => 4
  | _ => 0
def b2i (b : Bool) : Int32 := if b = true then 1 else 0
set_option maxHeartbeats 200000 in
theorem b2i_0 (b : Bool) : (b2i b = 0) = (b = false) := by cases b <;> exact propext ⟨fun h => by first | rfl | exact absurd h (by decide), fun h => by first | rfl | cases h⟩
def frI (f : Nat) : Int32 := if f = 25 then -1 else nI f
def FV (n f x : Nat) : Prop := (f < n ∨ f = 25) ∧ f ≠ x
def Ct (n : Nat) (W : Nat → Nat → Nat → Bool) (τ : St) : Prop := ∀ x f t, x < n → FV n f x → t < n → τ.2.1 39 (25 * (26 * x + f) + t) = b2i (W f x t)
section RF
variable {w h : Nat} {τ : St}
set_option maxHeartbeats 200000 in
theorem tI_p1 {r : Nat} (h : r < 1000) : (nI r + 1 : Int32).toInt = (r : Int) + 1 := by rw [nI_1, nI_toInt (by omega)]; rfl
set_option maxHeartbeats 200000 in
theorem tI_0 {r : Nat} (h : r < 1000) : (nI r + 0 : Int32).toInt = (r : Int) := by rw [Int32.add_zero, nI_toInt (by omega)]
set_option maxHeartbeats 200000 in
theorem tI_m1 {r : Nat} (h : r < 1000) : (nI r + (-1) : Int32).toInt = (r : Int) - 1 := by
  have e := nI_toInt (show r < 2 ^ 31 by omega)
  rw [addI (by rw [e]; show _ ≤ (r : Int) + (-1); clear e; omega) (by rw [e]; show (r : Int) + (-1) < _; clear e; omega), e]
  rfl
set_option maxHeartbeats 200000 in
theorem tI_s1 {r : Nat} (h : r < 1000) (h0 : 1 ≤ r) : (nI r - 1 : Int32).toInt = (r : Int) - 1 := by
  rw [nIs _ h0, nI_toInt (by omega)]; omega
set_option maxHeartbeats 200000 in
theorem step52 (hw : 1 ≤ w ∧ w ≤ 5) (hh : 1 ≤ h ∧ h ≤ 5) (h62 : τ.1 62 = nI w) (h63 : τ.1 63 = nI h) {X y0 y1 : Int32} {xi yi : Int} (hx : X.toInt = xi) (hy : (y0 + y1).toInt = yi) : f_X11_stepTo_52 X y0 y1 τ = if (0 ≤ xi ∧ xi < w) ∧ 0 ≤ yi ∧ yi < h then some (nI w * (y0 + y1) + X) else some (-1) := by
  unfold f_X11_stepTo_52 f_X11_stepTo_100
  rw [show gF τ 62 = _ from h62, show gF τ 63 = _ from h63, bndE]
  simp only [in0, wdL, tI_s1 (show w < 1000 by omega) hw.1, tI_s1 (show h < 1000 by omega) hh.1, hx, hy]
  rw [show (0 : Int64).toInt = 0 from rfl]
  clear hx hy h62 h63
  by_cases c1 : 0 ≤ xi ∧ xi < w
  · rw [if_neg (by omega)]
    by_cases c2 : 0 ≤ yi ∧ yi < h
    · rw [if_neg (by omega), if_pos ⟨c1, c2⟩]
    · rw [if_pos (by omega), if_neg (fun z => c2 z.2)]
  · rw [if_pos (by omega), if_neg (fun z => c1 z.1)]
-- a cell by its row and column
set_option maxHeartbeats 200000 in
theorem cell_of {c : Nat} (hw : 1 ≤ w ∧ w ≤ 5) (hh : 1 ≤ h ∧ h ≤ 5) (hc : c < w * h) : ∃ q r, c / w = q ∧ c % w = r ∧ q < h ∧ r < w ∧ c < 25 ∧ w * q + r = c ∧ w * (q + 1) + r = c + w ∧ (0 < q → w * (q - 1) + r = c - w) := by
  have h1 := box_lt hw hh hc
  have h2 := Nat.div_add_mod c w
  have h3 := Nat.mod_lt c (show 0 < w by omega)
  refine ⟨c / w, c % w, rfl, rfl, h1.2, h3, h1.1, h2, by rw [Nat.mul_succ]; omega, fun z => ?_⟩
  have : w * (c / w) = w * (c / w - 1) + w := by rw [← Nat.mul_succ, show (c / w - 1).succ = c / w by omega]
  omega
set_option maxHeartbeats 200000 in
theorem rmiN {c : Nat} (h62 : τ.1 62 = nI w) (hw : 1 ≤ w ∧ w ≤ 5) (hc : c < 25) : rmi (nI c) (gF τ 62) = some (nI (c % w)) := by
  unfold rmi
  rw [show gF τ 62 = _ from h62, if_neg (show ¬ nI w = 0 from nI_ne0 (by omega) (by omega)), pk_rem (by omega) (by omega) (by omega)]
set_option maxHeartbeats 200000 in
theorem dviN {c : Nat} (h62 : τ.1 62 = nI w) (hw : 1 ≤ w ∧ w ≤ 5) (hc : c < 25) : dvi (nI c) (gF τ 62) = some (nI (c / w)) := by
  unfold dvi
  rw [show gF τ 62 = _ from h62, if_neg (show ¬ nI w = 0 from nI_ne0 (by omega) (by omega)), pk_div (by omega) (by omega) (by omega)]
set_option maxHeartbeats 200000 in
theorem stepM (hw : 1 ≤ w ∧ w ≤ 5) (hh : 1 ≤ h ∧ h ≤ 5) (h62 : τ.1 62 = nI w) (h63 : τ.1 63 = nI h) {c s : Nat} (hc : c < w * h) (hs : s < 5) : f_X11_stepTo (nI c) (nI s) τ = some (oI (nbr w h c (pi5 s))) := by
  obtain ⟨q, r, eq, er, hq, hr, hc25, p1, p2, p3⟩ := cell_of hw hh hc
  unfold f_X11_stepTo f_X11_stepTo_25
  rw [rmiN h62 hw hc25, bS, dviN h62 hw hc25, eq, er]
  simp only [bndE, bS]
  have q5 : q < 1000 := by omega
  have r5 : r < 1000 := by omega
  match s, hs with
  | 0, _ =>
    rw [if_neg (by decide), if_neg (by decide), if_neg (by decide), if_neg (by decide), step52 hw hh h62 h63 (tI_0 r5) (tI_0 q5), if_pos (by omega), Int32.add_zero, Int32.add_zero, pk_mul, nI_add, p1]
    rfl
  | 1, _ =>
    rw [if_pos (by decide), if_neg (by decide), if_neg (by decide), step52 hw hh h62 h63 (tI_p1 r5) (tI_0 q5), Int32.add_zero, nI_1, pk_mul, nI_add]
    show _ = some (oI (if c % w + 1 < w then some (c + 1) else none))
    rw [er]
    by_cases z : r + 1 < w
    · rw [if_pos (by omega), if_pos z, show w * q + (r + 1) = c + 1 by omega]; rfl
    · rw [if_neg (by omega), if_neg z]; rfl
  | 2, _ =>
    rw [if_neg (by decide), if_pos (by decide), if_neg (by decide), if_neg (by decide), step52 hw hh h62 h63 (tI_m1 r5) (tI_0 q5), Int32.add_zero, pk_mul]
    show _ = some (oI (if 0 < c % w then some (c - 1) else none))
    rw [er]
    by_cases z : 0 < r
    · rw [if_pos (by omega), if_pos z, nIp r z, nI_add, show w * q + (r - 1) = c - 1 by omega]; rfl
    · rw [if_neg (by omega), if_neg z]; rfl
  | 3, _ =>
    rw [if_neg (by decide), if_neg (by decide), if_pos (by decide), step52 hw hh h62 h63 (tI_0 r5) (tI_p1 q5), Int32.add_zero, nI_1, pk_mul, nI_add, p2]
    show _ = some (oI (if c / w + 1 < h then some (c + w) else none))
    rw [eq]
    by_cases z : q + 1 < h
    · rw [if_pos (by omega), if_pos z]; rfl
    · rw [if_neg (by omega), if_neg z]; rfl
  | 4, _ =>
    rw [if_neg (by decide), if_neg (by decide), if_neg (by decide), if_pos (by decide), step52 hw hh h62 h63 (tI_0 r5) (tI_m1 q5), Int32.add_zero]
    show _ = some (oI (if 0 < c / w then some (c - w) else none))
    rw [eq]
    by_cases z : 0 < q
    · rw [if_pos (by omega), if_pos z, nIp q z, pk_mul, nI_add, p3 z]; rfl
    · rw [if_neg (by omega), if_neg z]; rfl
set_option maxHeartbeats 200000 in
theorem frI_lt {f : Nat} (hf : f < 25) : frI f = nI f := if_neg (by omega)
set_option maxHeartbeats 200000 in
theorem stateM {t x f : Nat} (hf : f ≤ 25) : f_X11_state (nI t) (nI x) (frI f) = nI (25 * (26 * x + f) + t) := by
  have e1 : 26 * nI x = nI (26 * x) := pk_mul 26 x
  have e2 : 25 * nI (26 * x + f) = nI (25 * (26 * x + f)) := pk_mul 25 _
  have e3 : (if 0 ≤ frI f then frI f else 25 : Int32) = nI f := by
    unfold frI
    by_cases c : f = 25
    · rw [if_pos c, if_neg (by decide), c]; rfl
    · rw [if_neg c, if_pos (nI_pos' (by omega))]
  unfold f_X11_state
  rw [e3, bndE, e1, nI_add, e2, nI_add]
set_option maxHeartbeats 200000 in
theorem al5_pi (q : Nat → Bool) : aF (fun s => q (pi5 s)) 5 0 = al5 q := by
  show (q 2 && (q 3 && (q 1 && (q 4 && (q 0 && true))))) = (q 0 && q 1 && q 2 && q 3 && q 4)
  cases q 0 <;> cases q 1 <;> cases q 2 <;> cases q 3 <;> cases q 4 <;> rfl
set_option maxHeartbeats 200000 in
theorem lostR (hw : 1 ≤ w ∧ w ≤ 5) (hh : 1 ≤ h ∧ h ≤ 5) (h62 : τ.1 62 = nI w) (h63 : τ.1 63 = nI h) {W : Nat → Nat → Nat → Bool} (hC : Ct (w * h) W τ) (hS : ∀ f x, W f x x = true) {t x f : Nat} (ht : t < w * h) (hx : x < w * h) (hf : FV (w * h) f x) : f_X11_isLost (nI t) (nI x) (frI f) τ = some (b2i (gT w h W f x t)) := by
  have hn : w * h ≤ 25 := Nat.mul_le_mul hw.2 hh.2
  have hf25 : f ≤ 25 := by rcases hf.1 with z | z <;> omega
  have loop : ∀ (k s m : Nat), s + k = 5 → k < m → f_X11_isLost_3 (nI t) (nI x) (frI f) τ m (nI s) = some (b2i (aF (fun s => tO (fun d => W f x d) (nbr w h t (pi5 s))) k s)) := by
    intro k
    induction k with
    | zero =>
      intro s m e1 e2
      obtain ⟨m, rfl⟩ : ∃ q, m = q + 1 := ⟨m - 1, by omega⟩
      have : s = 5 := by omega
      subst this
      unfold f_X11_isLost_3
      rw [if_pos (show (5 : Int32) ≤ nI 5 from nI_le (a := 5) (Nat.le_refl _) (by decide))]
      rfl
    | succ k ih =>
      intro s m e1 e2
      obtain ⟨m, rfl⟩ : ∃ q, m = q + 1 := ⟨m - 1, by omega⟩
      have h5 : ¬ (5 : Int32) ≤ nI s := nI_ge (b := 5) (by omega) (by decide)
      have ha : aF (fun s => tO (fun d => W f x d) (nbr w h t (pi5 s))) (k + 1) s = (tO (fun d => W f x d) (nbr w h t (pi5 s)) && aF (fun s => tO (fun d => W f x d) (nbr w h t (pi5 s))) k (s + 1)) := rfl
      unfold f_X11_isLost_3 f_X11_isLost_46
      rw [if_neg h5, stepM hw hh h62 h63 ht (by omega), bS, bndE, nI_1, ih (s + 1) m (by omega) (by omega), ha]
      cases e : nbr w h t (pi5 s) with
      | none => rw [if_pos (show oI none < 0 by decide)]; rfl
      | some d =>
        have hd := nbr_lt hw hh ht e
        rw [if_neg (show ¬ oI (some d) < 0 from nI_pos (by omega))]
        by_cases dx : d = x
        · rw [if_pos (show oI (some d) = nI x by show nI d = _; rw [dx])]
          show _ = some (b2i (W f x d && _))
          rw [dx, hS, Bool.true_and]
        · rw [if_neg (show ¬ oI (some d) = nI x by show ¬ nI d = _; rw [nI_eqE (by omega) (by omega)]; exact dx), show f_X11_state (oI (some d)) (nI x) (frI f) = _ from stateM hf25, rdM_39 (by omega), bS, hC x f d hx hf hd]
          show _ = some (b2i (W f x d && _))
          cases W f x d with
          | true => rw [if_neg (by decide), Bool.true_and]
          | false => rw [if_pos (by decide), Bool.false_and]; rfl
  unfold f_X11_isLost
  rw [show f_X11_isLost_3 (nI t) (nI x) (frI f) τ FU 0 = _ from loop 5 0 FU (by omega) (by unfold FU; omega)]
  unfold gT
  rw [← al5_pi]
set_option maxHeartbeats 200000 in
theorem hookR (hw : 1 ≤ w ∧ w ≤ 5) (hh : 1 ≤ h ∧ h ≤ 5) (h62 : τ.1 62 = nI w) (h63 : τ.1 63 = nI h) {W : Nat → Nat → Nat → Bool} (hC : Ct (w * h) W τ) (hS : ∀ f x, W f x x = true) {t d f : Nat} (ht : t < w * h) (hd : d < w * h) (hf : FV (w * h) f d) : f_X11_isHooked (nI t) (nI d) (frI f) τ = some (b2i (gFr w h W f d t)) := by
  have hn : w * h ≤ 25 := Nat.mul_le_mul hw.2 hh.2
  unfold f_X11_isHooked gFr
  by_cases c : t = d
  · subst c
    rw [if_pos rfl, decide_eq_true rfl, Bool.true_or]; rfl
  · rw [if_neg (by rw [nI_eqE (by omega) (by omega)]; exact fun z => c z.symm), decide_eq_false c, Bool.false_or]
    rcases hf.1 with hfn | rfl
    · rw [frI_lt (by omega), if_pos (nI_pos' (by omega))]
      have loop : ∀ (k s m : Nat), s + k = 5 → k < m → f_X11_isHooked_22 (nI t) (nI d) (nI f) τ m (nI s) = some (b2i (aF (fun s => tO (fun e => decide (e = d) || gT w h W e d t) (nbr w h f (pi5 s))) k s)) := by
        intro k
        induction k with
        | zero =>
          intro s m e1 e2
          obtain ⟨m, rfl⟩ : ∃ q, m = q + 1 := ⟨m - 1, by omega⟩
          have : s = 5 := by omega
          subst this
          unfold f_X11_isHooked_22
          rw [if_pos (show (5 : Int32) ≤ nI 5 from nI_le (a := 5) (Nat.le_refl _) (by decide))]
          rfl
        | succ k ih =>
          intro s m e1 e2
          obtain ⟨m, rfl⟩ : ∃ q, m = q + 1 := ⟨m - 1, by omega⟩
          have h5 : ¬ (5 : Int32) ≤ nI s := nI_ge (b := 5) (by omega) (by decide)
          have ha : aF (fun s => tO (fun e => decide (e = d) || gT w h W e d t) (nbr w h f (pi5 s))) (k + 1) s = (tO (fun e => decide (e = d) || gT w h W e d t) (nbr w h f (pi5 s)) && aF (fun s => tO (fun e => decide (e = d) || gT w h W e d t) (nbr w h f (pi5 s))) k (s + 1)) := rfl
          unfold f_X11_isHooked_22 f_X11_isHooked_61
          rw [if_neg h5, stepM hw hh h62 h63 hfn (by omega), bS, bndE, nI_1, ih (s + 1) m (by omega) (by omega), ha]
          cases e : nbr w h f (pi5 s) with
          | none => rw [if_pos (show oI none < 0 by decide)]; rfl
          | some e' =>
            have he := nbr_lt hw hh hfn e
            rw [if_neg (show ¬ oI (some e') < 0 from nI_pos (by omega))]
            by_cases dx : e' = d
            · rw [if_pos (show oI (some e') = nI d by show nI e' = _; rw [dx])]
              show _ = some (b2i ((decide (e' = d) || _) && _))
              rw [decide_eq_true dx, Bool.true_or, Bool.true_and]
            · have hl := lostR hw hh h62 h63 hC hS ht hd (f := e') ⟨Or.inl he, dx⟩
              rw [frI_lt (by omega)] at hl
              rw [if_neg (show ¬ oI (some e') = nI d by show ¬ nI e' = _; rw [nI_eqE (by omega) (by omega)]; exact dx), show f_X11_isLost (nI t) (nI d) (oI (some e')) τ = _ from hl, bS]
              show _ = some (b2i ((decide (e' = d) || gT w h W e' d t) && _))
              rw [decide_eq_false dx, Bool.false_or]
              cases gT w h W e' d t with
              | true => rw [if_neg (by decide), Bool.true_and]
              | false => rw [if_pos (by decide), Bool.false_and]; rfl
      rw [show f_X11_isHooked_22 (nI t) (nI d) (nI f) τ FU 0 = _ from loop 5 0 FU (by omega) (by unfold FU; omega), al5_pi (fun i => tO (fun e => decide (e = d) || gT w h W e d t) (nbr w h f i))]
      have k : ∀ i, fnb w h f i = nbr w h f i := fun i => fnb_nbr hw hh hfn
      simp only [k]
    · have hl := lostR hw hh h62 h63 hC hS ht hd hf
      rw [if_neg (show ¬ (0 : Int32) ≤ frI 25 by decide), show f_X11_isLost (nI t) (nI d) (-1) τ = _ from hl, bS]
      have k : al5 (fun i => tO (fun e => decide (e = d) || gT w h W e d t) (fnb w h 25 i)) = (decide (25 = d) || gT w h W 25 d t) := by
        unfold al5
        have k1 : ∀ i, i ≠ 2 → fnb w h 25 i = none := fun i hi => by unfold fnb; rw [if_pos rfl, if_neg hi]
        have k2 : fnb w h 25 2 = some 25 := by unfold fnb; rw [if_pos rfl, if_pos rfl]
        dsimp only
        rw [k1 0 (by decide), k1 1 (by decide), k2, k1 3 (by decide), k1 4 (by decide)]
        show (true && true && (decide (25 = d) || gT w h W 25 d t) && true && true) = _
        cases (decide (25 = d) || gT w h W 25 d t) <;> rfl
      rw [k, decide_eq_false (show ¬ 25 = d by omega), Bool.false_or]
      cases gT w h W 25 d t <;> rfl
set_option maxHeartbeats 200000 in
theorem pi_sur : ∀ i, i < 5 → ∃ s, s < 5 ∧ pi5 s = i := by decide
set_option maxHeartbeats 200000 in
theorem pi_lt : ∀ s, s < 5 → pi5 s < 5 := by decide
set_option maxHeartbeats 200000 in
theorem firstR (hw : 1 ≤ w ∧ w ≤ 5) (hh : 1 ≤ h ∧ h ≤ 5) (h62 : τ.1 62 = nI w) (h63 : τ.1 63 = nI h) {W : Nat → Nat → Nat → Bool} (hC : Ct (w * h) W τ) (hS : ∀ f x, W f x x = true) {t x f : Nat} (ht : t < w * h) (hx : x < w * h) (hf : f < w * h ∨ f = 25) : ∃ r, f_X11_firstHook (nI t) (nI x) (frI f) τ = some r ∧ LM w h (fun d => gFr w h W f d t) f x r := by
  have hn : w * h ≤ 25 := Nat.mul_le_mul hw.2 hh.2
  have loop : ∀ (k s m : Nat) (b : Int32), s + k = 5 → k < m → ((b = -1 ∧ ∀ s' d, s' < s → nbr w h x (pi5 s') = some d → d ≠ f → gFr w h W f d t = false) ∨ ∃ d, b = nI d ∧ d < 25 ∧ (∃ s', s' < s ∧ nbr w h x (pi5 s') = some d) ∧ d ≠ f ∧ gFr w h W f d t = true ∧ ∀ s' d', s' < s → nbr w h x (pi5 s') = some d' → d' ≠ f → gFr w h W f d' t = true → d ≤ d') → ∃ r, f_X11_firstHook_6 (nI t) (nI x) (frI f) τ m b (nI s) = some r ∧ LM w h (fun d => gFr w h W f d t) f x r := by
    intro k
    induction k with
    | zero =>
      intro s m b e1 e2 hb
      obtain ⟨m, rfl⟩ : ∃ q, m = q + 1 := ⟨m - 1, by omega⟩
      have : s = 5 := by omega
      subst this
      refine ⟨b, ?_, ?_⟩
      · unfold f_X11_firstHook_6
        rw [if_pos (show (5 : Int32) ≤ nI 5 from nI_le (a := 5) (Nat.le_refl _) (by decide))]
      · rcases hb with ⟨b1, b2⟩ | ⟨d, b1, b2, ⟨s', hs', es'⟩, b3, b4, b5⟩
        · refine Or.inl ⟨b1, fun i d hi => ?_⟩
          obtain ⟨s', q1, q2⟩ := pi_sur i hi
          rw [← q2]
          exact b2 s' d q1
        · refine Or.inr ⟨d, b1, b2, ⟨pi5 s', pi_lt s' hs', es'⟩, b3, b4, fun i d' hi => ?_⟩
          obtain ⟨s2, q1, q2⟩ := pi_sur i hi
          rw [← q2]
          exact b5 s2 d' q1
    | succ k ih =>
      intro s m b e1 e2 hb
      obtain ⟨m, rfl⟩ : ∃ q, m = q + 1 := ⟨m - 1, by omega⟩
      have h5 : ¬ (5 : Int32) ≤ nI s := nI_ge (b := 5) (by omega) (by decide)
      unfold f_X11_firstHook_6 f_X11_firstHook_47 f_X11_firstHook_62
      simp only [bndE]
      rw [if_neg h5, stepM hw hh h62 h63 hx (by omega), bS, nI_1]
      have skip : (∀ d, nbr w h x (pi5 s) = some d → d ≠ f → gFr w h W f d t = true → ∃ d0, b = nI d0 ∧ d0 ≤ d) → ∃ r, f_X11_firstHook_6 (nI t) (nI x) (frI f) τ m b (nI (s + 1)) = some r ∧ LM w h (fun d => gFr w h W f d t) f x r := by
        intro hs
        refine ih (s + 1) m b (by omega) (by omega) ?_
        rcases hb with ⟨b1, b2⟩ | ⟨d, b1, b2, ⟨s', hs', es'⟩, b3, b4, b5⟩
        · refine Or.inl ⟨b1, fun s' d hs' => ?_⟩
          by_cases z : s' = s
          · subst z
            intro q1 q2
            apply Bool.eq_false_iff.mpr
            intro q3
            obtain ⟨d0, p1, p2⟩ := hs d q1 q2 q3
            have hd := nbr_25 hw hh hx q1
            rw [b1] at p1
            have := congrArg Int32.toInt p1
            rw [nI_toInt (by omega)] at this
            have this : (-1 : Int) = d0 := this
            omega
          · exact b2 s' d (by omega)
        · refine Or.inr ⟨d, b1, b2, ⟨s', by omega, es'⟩, b3, b4, fun s2 d' hs2 => ?_⟩
          by_cases z : s2 = s
          · subst z
            intro q1 q2 q3
            obtain ⟨d0, p1, p2⟩ := hs d' q1 q2 q3
            have hd := nbr_25 hw hh hx q1
            have : d = d0 := by rw [b1] at p1; exact (nI_eq (by omega) (by omega)).mp p1
            omega
          · exact b5 s2 d' (by omega)
      cases e : nbr w h x (pi5 s) with
      | none =>
        rw [if_pos (show oI none < 0 by decide)]
        exact skip (fun d z => by rw [e] at z; cases z)
      | some d =>
        have hd := nbr_lt hw hh hx e
        rw [if_neg (show ¬ oI (some d) < 0 from nI_pos (by omega))]
        by_cases dx : d = f
        · rw [if_pos (show oI (some d) = frI f by rw [← dx, frI_lt (by omega)]; rfl)]
          exact skip (fun d' z q => by rw [e] at z; cases z; exact absurd dx q)
        · have hne : ¬ oI (some d) = frI f := by
            unfold frI
            by_cases z : f = 25
            · rw [if_pos z]
              intro y
              have := congrArg Int32.toInt y
              rw [show oI (some d) = nI d from rfl, nI_toInt (by omega)] at this
              have this : (d : Int) = -1 := this
              omega
            · rw [if_neg z]
              show ¬ nI d = nI f
              rw [nI_eqE (by omega) (by rcases hf with y | y <;> omega)]
              exact dx
          rw [if_neg hne]
          have hk := hookR hw hh h62 h63 hC hS ht hd ⟨hf, fun z => dx z.symm⟩
          have yes : (∀ d0, b = nI d0 → d0 < 25 → d ≤ d0) → ∃ r, ((f_X11_isHooked (nI t) (oI (some d)) (frI f) τ).bind fun v8 => if v8 = 0 then f_X11_firstHook_6 (nI t) (nI x) (frI f) τ m b (nI (s + 1)) else f_X11_firstHook_6 (nI t) (nI x) (frI f) τ m (oI (some d)) (nI (s + 1))) = some r ∧ LM w h (fun d => gFr w h W f d t) f x r := by
            intro hle
            rw [show f_X11_isHooked (nI t) (oI (some d)) (frI f) τ = _ from hk, bS]
            cases hq : gFr w h W f d t with
            | false =>
              rw [if_pos (by decide)]
              exact skip (fun d' z q1 q2 => by rw [e] at z; cases z; rw [hq] at q2; cases q2)
            | true =>
              rw [if_neg (by decide)]
              refine ih (s + 1) m (nI d) (by omega) (by omega) (Or.inr ⟨d, rfl, by omega, ⟨s, by omega, e⟩, dx, hq, fun s2 d' hs2 q1 q2 q3 => ?_⟩)
              by_cases z : s2 = s
              · subst z; rw [e] at q1; cases q1; exact Nat.le_refl _
              · rcases hb with ⟨b1, b2⟩ | ⟨d1, b1, b2, -, b3, b4, b5⟩
                · rw [b2 s2 d' (by omega) q1 q2] at q3; cases q3
                · exact Nat.le_trans (hle d1 b1 b2) (b5 s2 d' (by omega) q1 q2 q3)
          rcases hb with ⟨b1, b2⟩ | ⟨d1, b1, b2, b3⟩
          · rw [if_pos (show b < 0 by rw [b1]; decide)]
            exact yes (fun d0 z _ => by
              rw [b1] at z
              have := congrArg Int32.toInt z
              rw [nI_toInt (by omega)] at this
              have this : (-1 : Int) = d0 := this
              omega)
          · rw [if_neg (show ¬ b < 0 by rw [b1]; exact nI_pos (by omega))]
            by_cases z : d ≤ d1
            · rw [if_pos (show oI (some d) ≤ b by rw [b1]; exact nI_le z (by omega))]
              exact yes (fun d0 y y2 => by rw [b1] at y; rw [← (nI_eq (by omega) (by omega)).mp y]; exact z)
            · rw [if_neg (show ¬ oI (some d) ≤ b by rw [b1]; exact nI_ge (by omega) (by omega))]
              exact skip (fun d' y _ _ => by rw [e] at y; cases y; exact ⟨d1, b1, by omega⟩)
  exact loop 5 0 FU (-1) (by omega) (by unfold FU; omega) (Or.inl ⟨rfl, fun s' d z => absurd z (by omega)⟩)
set_option maxHeartbeats 200000 in
theorem LM_gX {W : Nat → Nat → Nat → Bool} {f x t : Nat} {r : Int32} (hL : LM w h (fun d => gFr w h W f d t) f x r) : (r < 0) = (gX w h W f x t = false) := by
  rcases hL with ⟨h1, h2⟩ | ⟨d, h1, h2, ⟨i, hi, ei⟩, h3, h4, -⟩
  · rw [h1]
    refine propext ⟨fun _ => ?_, fun _ => by decide⟩
    apply Bool.eq_false_iff.mpr
    unfold gX
    rw [Ne, an5_iff]
    rintro ⟨i, hi, q⟩
    cases e : nbr w h x i with
    | none => rw [e] at q; cases q
    | some d =>
      rw [e] at q
      have q : (!!(!decide (d = f) && gFr w h W f d t)) = true := q
      rw [Bool.not_not, Bool.and_eq_true] at q
      have hd : d ≠ f := by simpa using q.1
      have := h2 i d hi e hd
      have this : gFr w h W f d t = false := this
      rw [this] at q
      cases q.2
  · rw [h1]
    refine propext ⟨fun z => absurd z (nI_pos (by omega)), fun z => ?_⟩
    exfalso
    have : gX w h W f x t = true := by
      unfold gX
      rw [an5_iff]
      refine ⟨i, hi, ?_⟩
      rw [ei]
      show (!!(!decide (d = f) && gFr w h W f d t)) = true
      rw [decide_eq_false h3, show gFr w h W f d t = true from h4]
      rfl
    rw [this] at z
    cases z
end RF
