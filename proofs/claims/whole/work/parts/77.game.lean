/-! the game -/
def nbr (w h c : Nat) : Nat → Option Nat
  | 0 => if 0 < c / w then some (c - w) else none
  | 1 => if 0 < c % w then some (c - 1) else none
  | 2 => some c
  | 3 => if c % w + 1 < w then some (c + 1) else none
  | 4 => if c / w + 1 < h then some (c + w) else none
  | _ => none
def fnb (w h f i : Nat) : Option Nat := if f = 25 then (if i = 2 then some 25 else none) else nbr w h f i
def al5 (p : Nat → Bool) : Bool := p 0 && p 1 && p 2 && p 3 && p 4
def an5 (p : Nat → Bool) : Bool := p 0 || p 1 || p 2 || p 3 || p 4
def tO (W : Nat → Bool) : Option Nat → Bool
  | none => true
  | some d => W d
def gT (w h : Nat) (W : Nat → Nat → Nat → Bool) (f x t : Nat) : Bool := al5 (fun i => tO (fun d => W f x d) (nbr w h t i))
def gFr (w h : Nat) (W : Nat → Nat → Nat → Bool) (f x t : Nat) : Bool := decide (t = x) || al5 (fun i => tO (fun e => decide (e = x) || gT w h W e x t) (fnb w h f i))
def gX (w h : Nat) (W : Nat → Nat → Nat → Bool) (f x t : Nat) : Bool := an5 (fun i => !tO (fun d => !(!decide (d = f) && gFr w h W f d t)) (nbr w h x i))
def gW (w h : Nat) : Nat → Nat → Nat → Nat → Bool
  | 0, _, x, t => decide (t = x)
  | m + 1, f, x, t => decide (t = x) || gX w h (gW w h m) f x t
def oI : Option Nat → Int32
  | none => -1
  | some d => nI d
theorem oI_pos {o : Option Nat} (h : ∀ d, o = some d → d < 100) : (oI o < 0) = (o = none) := by
  cases o with
  | none => exact propext ⟨fun _ => rfl, fun _ => by decide⟩
  | some d => exact propext ⟨fun z => absurd z (nI_pos (by have := h d rfl; omega)), fun z => by cases z⟩
theorem box_lt {w h c : Nat} (hw : 1 ≤ w ∧ w ≤ 5) (hh : 1 ≤ h ∧ h ≤ 5) (hc : c < w * h) : c < 25 ∧ c / w < h := by
  obtain ⟨w1, w2⟩ := hw
  obtain ⟨h1, h2⟩ := hh
  refine ⟨Nat.lt_of_lt_of_le hc (Nat.le_trans (Nat.mul_le_mul w2 h2) (by decide)), ?_⟩
  exact Nat.div_lt_of_lt_mul hc
theorem box_w {w : Nat} (hw : 1 ≤ w ∧ w ≤ 5) : w = 1 ∨ w = 2 ∨ w = 3 ∨ w = 4 ∨ w = 5 := by omega
theorem nbr_lt {w h c i d : Nat} (hw : 1 ≤ w ∧ w ≤ 5) (hh : 1 ≤ h ∧ h ≤ 5) (hc : c < w * h) (e : nbr w h c i = some d) : d < w * h := by
  unfold nbr at e
  rcases box_w hw with rfl | rfl | rfl | rfl | rfl <;> (split at e <;> first | (split at e <;> first | (cases e; omega) | cases e) | (cases e; omega) | cases e)
theorem nbr_25 {w h c i d : Nat} (hw : 1 ≤ w ∧ w ≤ 5) (hh : 1 ≤ h ∧ h ≤ 5) (hc : c < w * h) (e : nbr w h c i = some d) : d < 25 := (box_lt hw hh (nbr_lt hw hh hc e)).1
/-- the cells beside one, as the bits have it -/
theorem nbr_any {w h t : Nat} (hw : 1 ≤ w ∧ w ≤ 5) (hh : 1 ≤ h ∧ h ≤ 5) (ht : t < w * h) (fr : Nat → Bool) (hfr : ∀ d, w * h ≤ d → fr d = false) : (fr t || (decide (w ≤ t) && fr (t - w)) || fr (w + t) || (decide (1 ≤ t) && (fr (t - 1) && decide (t - 1 < w * h ∧ (t - 1) % w + 1 < w))) || (fr (1 + t) && decide (1 + t < w * h ∧ 0 < (1 + t) % w))) = !al5 (fun i => tO (fun d => !fr d) (nbr w h t i)) := by
  have q0 : (decide (w ≤ t) && fr (t - w)) = !tO (fun d => !fr d) (nbr w h t 0) := by
    show _ = !tO _ (if 0 < t / w then some (t - w) else none)
    by_cases c : w ≤ t
    · rw [decide_eq_true c, if_pos (Nat.div_pos c (by omega))]
      show _ = !!fr (t - w)
      rw [Bool.true_and, Bool.not_not]
    · rw [decide_eq_false c, Nat.div_eq_of_lt (by omega)]
      rfl
  have q1 : (decide (1 ≤ t) && (fr (t - 1) && decide (t - 1 < w * h ∧ (t - 1) % w + 1 < w))) = !tO (fun d => !fr d) (nbr w h t 1) := by
    show _ = !tO _ (if 0 < t % w then some (t - 1) else none)
    have key : (1 ≤ t ∧ (t - 1) % w + 1 < w) ↔ 0 < t % w := by rcases box_w hw with rfl | rfl | rfl | rfl | rfl <;> omega
    by_cases c : 0 < t % w
    · obtain ⟨k1, k2⟩ := key.mpr c
      rw [decide_eq_true k1, decide_eq_true (show t - 1 < w * h ∧ (t - 1) % w + 1 < w from ⟨by omega, k2⟩), if_pos c]
      show _ = !!fr (t - 1)
      rw [Bool.true_and, Bool.and_true, Bool.not_not]
    · rw [if_neg c]
      by_cases k1 : 1 ≤ t
      · rw [decide_eq_false (show ¬ (t - 1 < w * h ∧ (t - 1) % w + 1 < w) from fun z => c (key.mp ⟨k1, z.2⟩)), Bool.and_false, Bool.and_false]; rfl
      · rw [decide_eq_false k1]; rfl
  have q3 : (fr (1 + t) && decide (1 + t < w * h ∧ 0 < (1 + t) % w)) = !tO (fun d => !fr d) (nbr w h t 3) := by
    show _ = !tO _ (if t % w + 1 < w then some (t + 1) else none)
    have key : (1 + t < w * h ∧ 0 < (1 + t) % w) ↔ t % w + 1 < w := by rcases box_w hw with rfl | rfl | rfl | rfl | rfl <;> omega
    by_cases c : t % w + 1 < w
    · rw [decide_eq_true (key.mpr c), if_pos c]
      show _ = !!fr (t + 1)
      rw [Bool.and_true, Bool.not_not, Nat.add_comm]
    · rw [decide_eq_false (fun z => c (key.mp z)), if_neg c, Bool.and_false]; rfl
  have q4 : fr (w + t) = !tO (fun d => !fr d) (nbr w h t 4) := by
    show _ = !tO _ (if t / w + 1 < h then some (t + w) else none)
    have key : (t + w < w * h) ↔ t / w + 1 < h := by rcases box_w hw with rfl | rfl | rfl | rfl | rfl <;> omega
    by_cases c : t / w + 1 < h
    · rw [if_pos c]
      show _ = !!fr (t + w)
      rw [Bool.not_not, Nat.add_comm]
    · rw [if_neg c, hfr _ (by have := fun z => c (key.mp z); omega)]; rfl
  have q2 : fr t = !tO (fun d => !fr d) (nbr w h t 2) := by show _ = !!fr t; rw [Bool.not_not]
  rw [q0, q1, q3, q4, q2]
  unfold al5
  dsimp only
  generalize tO (fun d => !fr d) (nbr w h t 0) = b0
  generalize tO (fun d => !fr d) (nbr w h t 1) = b1
  generalize tO (fun d => !fr d) (nbr w h t 2) = b2
  generalize tO (fun d => !fr d) (nbr w h t 3) = b3
  generalize tO (fun d => !fr d) (nbr w h t 4) = b4
  cases b0 <;> cases b1 <;> cases b2 <;> cases b3 <;> cases b4 <;> rfl
theorem gW_self (w h m f x : Nat) : gW w h m f x x = true := by
  cases m with
  | zero => exact decide_eq_true rfl
  | succ m => show (decide (x = x) || _) = true; rw [decide_eq_true rfl, Bool.true_or]
theorem tO_mono {W W' : Nat → Bool} (h : ∀ d, W d = true → W' d = true) (o : Option Nat) (z : tO W o = true) : tO W' o = true := by
  cases o with
  | none => rfl
  | some d => exact h d z
theorem al5_iff (p : Nat → Bool) : al5 p = true ↔ ∀ i, i < 5 → p i = true := by
  unfold al5
  simp only [Bool.and_eq_true]
  constructor
  · intro h i hi
    obtain ⟨⟨⟨⟨a, b⟩, c⟩, d⟩, e⟩ := h
    match i, hi with
    | 0, _ => exact a
    | 1, _ => exact b
    | 2, _ => exact c
    | 3, _ => exact d
    | 4, _ => exact e
  · intro h
    exact ⟨⟨⟨⟨h 0 (by decide), h 1 (by decide)⟩, h 2 (by decide)⟩, h 3 (by decide)⟩, h 4 (by decide)⟩
theorem an5_iff (p : Nat → Bool) : an5 p = true ↔ ∃ i, i < 5 ∧ p i = true := by
  unfold an5
  simp only [Bool.or_eq_true]
  constructor
  · rintro ((((a | b) | c) | d) | e)
    · exact ⟨0, by decide, a⟩
    · exact ⟨1, by decide, b⟩
    · exact ⟨2, by decide, c⟩
    · exact ⟨3, by decide, d⟩
    · exact ⟨4, by decide, e⟩
  · rintro ⟨i, hi, h⟩
    match i, hi, h with
    | 0, _, h => exact Or.inl (Or.inl (Or.inl (Or.inl h)))
    | 1, _, h => exact Or.inl (Or.inl (Or.inl (Or.inr h)))
    | 2, _, h => exact Or.inl (Or.inl (Or.inr h))
    | 3, _, h => exact Or.inl (Or.inr h)
    | 4, _, h => exact Or.inr h
theorem gT_mono {w h : Nat} {W W' : Nat → Nat → Nat → Bool} (hm : ∀ f x t, W f x t = true → W' f x t = true) {f x t : Nat} (z : gT w h W f x t = true) : gT w h W' f x t = true := by
  unfold gT at *
  rw [al5_iff] at *
  exact fun i hi => tO_mono (fun d => hm f x d) _ (z i hi)
theorem gFr_mono {w h : Nat} {W W' : Nat → Nat → Nat → Bool} (hm : ∀ f x t, W f x t = true → W' f x t = true) {f x t : Nat} (z : gFr w h W f x t = true) : gFr w h W' f x t = true := by
  unfold gFr at *
  rw [Bool.or_eq_true] at *
  rcases z with z | z
  · exact Or.inl z
  · refine Or.inr ?_
    rw [al5_iff] at *
    refine fun i hi => tO_mono (fun d hd => ?_) _ (z i hi)
    rw [Bool.or_eq_true] at *
    exact hd.elim Or.inl (fun q => Or.inr (gT_mono hm q))
theorem gX_mono {w h : Nat} {W W' : Nat → Nat → Nat → Bool} (hm : ∀ f x t, W f x t = true → W' f x t = true) {f x t : Nat} (z : gX w h W f x t = true) : gX w h W' f x t = true := by
  unfold gX at *
  rw [an5_iff] at *
  obtain ⟨i, hi, q⟩ := z
  refine ⟨i, hi, ?_⟩
  cases e : nbr w h x i with
  | none => rw [e] at q; cases q
  | some d =>
    rw [e] at q
    have q : (!!(!decide (d = f) && gFr w h W f d t)) = true := q
    show (!!(!decide (d = f) && gFr w h W' f d t)) = true
    rw [Bool.not_not, Bool.and_eq_true] at *
    exact ⟨q.1, gFr_mono hm q.2⟩
theorem gW_mono (w h : Nat) : ∀ m f x t, gW w h m f x t = true → gW w h (m + 1) f x t = true := by
  intro m
  induction m with
  | zero =>
    intro f x t z
    have z : decide (t = x) = true := z
    show (decide (t = x) || _) = true
    rw [z, Bool.true_or]
  | succ m ih =>
    intro f x t z
    have z : (decide (t = x) || gX w h (gW w h m) f x t) = true := z
    show (decide (t = x) || gX w h (gW w h (m + 1)) f x t) = true
    rw [Bool.or_eq_true] at *
    exact z.elim Or.inl (fun q => Or.inr (gX_mono ih q))
theorem gW_step (w h m f x t : Nat) : (gW w h m f x t || gX w h (gW w h m) f x t) = gW w h (m + 1) f x t := by
  show _ = (decide (t = x) || gX w h (gW w h m) f x t)
  by_cases c : t = x
  · subst c; rw [gW_self, decide_eq_true rfl, Bool.true_or]
  · rw [decide_eq_false c, Bool.false_or]
    cases hX : gX w h (gW w h m) f x t with
    | true => rw [Bool.or_true]
    | false =>
      rw [Bool.or_false]
      cases hg : gW w h m f x t with
      | false => rfl
      | true =>
        have := gW_mono w h m f x t hg
        have this : (decide (t = x) || gX w h (gW w h m) f x t) = true := this
        rw [decide_eq_false c, hX] at this
        cases this
/-- two loops over a table -/
theorem dbl {a : Nat} {σ : St} {n ff lf : Nat} {Pp : Nat → Nat → Int32 → Prop} (hn : n ≤ 25) (hlf : lf ≤ 25) (hff : ff ≤ lf + 1) (F15 : Int32 → (Int32 → St → Option St) → Nat → Int32 → St → Option St) (F5 : Nat → Int32 → St → Option St)
    (h1 : ∀ f k5 m A, F15 (nI f) k5 (m + 1) (nI n) (stA σ a A) = k5 (nI (f + 1)) (stA σ a A))
    (h2 : ∀ f k5 m x A, ff ≤ f → f ≤ lf → x < n → ∃ v, Pp f x v ∧ F15 (nI f) k5 (m + 1) (nI x) (stA σ a A) = F15 (nI f) k5 m (nI (x + 1)) (stA σ a (upd A (25 * f + x) v)))
    (h3 : ∀ m A, F5 (m + 1) (nI (lf + 1)) (stA σ a A) = some (stA σ a A))
    (h4 : ∀ m f A, f ≤ lf → F5 (m + 1) (nI f) (stA σ a A) = F15 (nI f) (F5 m) FU 0 (stA σ a A)) (A : Nat → Int32) : ∃ A', F5 FU (nI ff) (stA σ a A) = some (stA σ a A') ∧ ∀ f x, ff ≤ f → f ≤ lf → x < n → Pp f x (A' (25 * f + x)) := by
  have inn : ∀ (f : Nat) (k5 : Int32 → St → Option St), ff ≤ f → f ≤ lf → ∀ (k x m : Nat) (A : Nat → Int32), x + k = n → k < m → ∃ A', F15 (nI f) k5 m (nI x) (stA σ a A) = k5 (nI (f + 1)) (stA σ a A') ∧ (∀ i, (i < 25 * f + x ∨ 25 * f + n ≤ i) → A' i = A i) ∧ ∀ x', x ≤ x' → x' < n → Pp f x' (A' (25 * f + x')) := by
    intro f k5 hf1 hf2 k
    induction k with
    | zero =>
      intro x m A e1 e2
      obtain ⟨m, rfl⟩ : ∃ q, m = q + 1 := ⟨m - 1, by omega⟩
      have : x = n := by omega
      subst this
      exact ⟨A, h1 f k5 m A, fun _ _ => rfl, fun x' c1 c2 => absurd c2 (by omega)⟩
    | succ k ih =>
      intro x m A e1 e2
      obtain ⟨m, rfl⟩ : ∃ q, m = q + 1 := ⟨m - 1, by omega⟩
      obtain ⟨v, hv, hq⟩ := h2 f k5 m x A hf1 hf2 (by omega)
      obtain ⟨A', z1, z2, z3⟩ := ih (x + 1) m (upd A (25 * f + x) v) (by omega) (by omega)
      refine ⟨A', hq.trans z1, fun i hi => by rw [z2 i (by omega)]; exact upd_ne _ _ (by omega), fun x' c1 c2 => ?_⟩
      by_cases d : x' = x
      · subst d; rw [z2 _ (by omega), upd_at]; exact hv
      · exact z3 x' (by omega) c2
  have out : ∀ (k f m : Nat) (A : Nat → Int32), f + k = lf + 1 → ff ≤ f → k < m → ∃ A', F5 m (nI f) (stA σ a A) = some (stA σ a A') ∧ (∀ i, i < 25 * f → A' i = A i) ∧ ∀ f' x, f ≤ f' → f' ≤ lf → x < n → Pp f' x (A' (25 * f' + x)) := by
    intro k
    induction k with
    | zero =>
      intro f m A e1 e2 e3
      obtain ⟨m, rfl⟩ : ∃ q, m = q + 1 := ⟨m - 1, by omega⟩
      have : f = lf + 1 := by omega
      subst this
      exact ⟨A, h3 m A, fun _ _ => rfl, fun f' x c1 c2 => absurd c2 (by omega)⟩
    | succ k ih =>
      intro f m A e1 e2 e3
      obtain ⟨m, rfl⟩ : ∃ q, m = q + 1 := ⟨m - 1, by omega⟩
      obtain ⟨A1, z1, z2, z3⟩ := inn f (F5 m) e2 (by omega) n 0 FU A (by omega) (by unfold FU; omega)
      obtain ⟨A2, y1, y2, y3⟩ := ih (f + 1) m A1 (by omega) (by omega) (by omega)
      refine ⟨A2, ((h4 m f A (by omega)).trans z1).trans y1, fun i hi => by rw [y2 i (by omega), z2 i (by omega)], fun f' x c1 c2 c3 => ?_⟩
      by_cases d : f' = f
      · subst d; rw [y2 _ (by omega)]; exact z3 x (by omega) c3
      · exact y3 f' x (by omega) c2 c3
  obtain ⟨A', z1, -, z3⟩ := out (lf + 1 - ff) ff FU A (by omega) (Nat.le_refl _) (by unfold FU; omega)
  exact ⟨A', z1, z3⟩
